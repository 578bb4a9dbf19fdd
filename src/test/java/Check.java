import java.io.IOException;
import java.nio.file.Files;
import java.nio.file.Path;
import java.util.ArrayList;
import java.util.List;

/** What the tests share: telling wrong answers, feeding texts, and all that a register tells. */
final class Check {
    private static final List<String[]> QUOTES = new ArrayList<>();
    private static int wrong = 0;
    private static String about = "";

    private Check() {
    }

    static void due(String call, long got, long want) {
        if (got != want) {
            wrong++;
            System.out.println(about + call + " answered " + got + ", due is " + want);
        }
    }

    static void holds(String what, boolean held) {
        if (!held) {
            wrong++;
            System.out.println(about + "not so: " + what);
        }
    }

    /** What is looked at from here on is a test of this sentence, in this place of the document. */
    static void sentence(String place, String quote) {
        QUOTES.add(new String[] {place, quote});
        about = "[" + place + ": " + quote + "] ";
    }

    /** As end(), and each sentence stands in its place word for word: a test of none would be a wrong test. */
    static void endOfSentences(String[] args) throws IOException {
        Path file = Path.of(args.length > 0 ? args[0] : ".").resolve("../shared/DOC.md");
        about = "";
        if (!Files.isReadable(file)) {
            System.out.println("no document to look the sentences up in: " + file);
            end();
            return;
        }
        String document = Files.readString(file);
        for (String[] quote : QUOTES) {
            holds("the document says at " + quote[0] + ": " + quote[1],
                    placeOf(document, quote[0]).replaceAll("\\s+", " ").contains(quote[1]));
        }
        end();
    }

    /** "terms 2", "promise 17", or else the place that begins with the words. */
    private static String placeOf(String document, String place) {
        String number = place.replaceAll("[^0-9]", "");
        if (place.startsWith("promise ")) {
            return between(document, "## Promise " + number + ":", "\n## ");
        }
        if (place.startsWith("terms ")) {
            return between(between(document, "## Terms", "A call that is refused"), "\n" + number + ". ", "\n\\d\\. ");
        }
        return document.contains(place) ? document.substring(document.indexOf(place)) : "";
    }

    /** From a word on to what a pattern finds behind it; nothing if the word isn't there. */
    private static String between(String text, String from, String to) {
        int start = text.indexOf(from);
        return start < 0 ? "" : from + text.substring(start + from.length()).split(to, 2)[0];
    }

    static void end() {
        if (wrong != 0) {
            System.out.println(wrong + " answers are not as due");
            System.exit(1);
        }
    }

    /** Four letters of a text, from a place on, as feed() takes them. */
    static int packed(String text, int from) {
        int v = 0;
        for (int i = 0; i < 4 && from + i < text.length(); i++) {
            v |= (text.charAt(from + i) & 255) << (8 * i);
        }
        return v;
    }

    static void feed(HullRegister x, String text) {
        for (int i = 0; i < text.length(); i += 4) {
            int before = x.many(8);
            due("feed of \"" + text + "\"", x.feed(packed(text, i)), before + Math.min(4, text.length() - i));
        }
    }

    /** What act() answers for a text when nothing was fed before; nothing is fed afterwards. */
    static int enact(HullRegister x, String text, int day) {
        feed(x, text);
        int answer = x.act(day);
        x.scrap();
        return answer;
    }

    static void isGood(String text, boolean good) {
        int answer = enact(new HullRegister(), text, 0);
        due("act of \"" + text + "\"", answer, good ? 0 : HullRegister.KIND);
    }

    /** Tons by a text that is the only act. */
    static int tonsBy(String text, int length, int breadth, int depth, int rooms) {
        HullRegister x = new HullRegister();
        due("act of \"" + text + "\"", enact(x, text, 0), 0);
        return x.tons(0, length, breadth, depth, rooms);
    }

    /** The answers of every call that only tells, over all its good arguments. */
    static List<Integer> allTold(HullRegister x) {
        List<Integer> told = new ArrayList<>();
        for (int what = 0; what <= 8; what++) {
            told.add(x.many(what));
        }
        for (int day = 0; day <= 999; day += 3) {
            told.add(x.inForce(day));
        }
        for (int act = 0; act < 5; act++) {
            told.add(x.tons(act, 7, 5, 3, 11));
        }
        for (int hull = 0; hull < 5; hull++) {
            for (int what = 0; what <= 6; what++) {
                told.add(x.of(hull, what));
            }
            told.add(x.manager(hull));
            for (int person = 0; person < 8; person++) {
                told.add(x.parts(hull, person, true));
                told.add(x.parts(hull, person, false));
                told.add(x.held(hull, person));
            }
        }
        for (int entry = 0; entry < 60; entry++) {
            for (int what = 0; what <= 8; what++) {
                told.add(x.entry(entry, what));
            }
        }
        told.add(x.groups());
        for (int paper = 0; paper < 8; paper++) {
            told.add(x.group(paper));
            for (int other = 0; other < 8; other++) {
                told.add(x.alike(paper, other));
            }
        }
        return told;
    }
}
