import java.io.IOException;
import java.lang.reflect.Constructor;
import java.lang.reflect.Field;
import java.lang.reflect.Member;
import java.lang.reflect.Method;
import java.lang.reflect.Modifier;
import java.nio.file.Files;
import java.nio.file.Path;
import java.util.HashSet;
import java.util.Set;
import java.util.TreeSet;
import java.util.regex.Matcher;
import java.util.regex.Pattern;

/** The public face as the document has it, and what LANGUAGE.md says of the names and classes about it. */
public final class FaceTest {
    private static final String[] FACE = {
        "NUMBER = -1", "FULL = -2", "TWICE = -3", "NONE = -4", "KIND = -5", "NOTHING = -10000000",
        "HullRegister()", "feed(int)", "scrap()", "act(int)", "inForce(int)", "tons(int,int,int,int,int)",
        "shape(int,int,int)", "hull(int,int,int,int)", "alter(int,int,int,int,int)", "measure(int,int)",
        "of(int,int)", "sell(int,int,int,int)", "pledge(int,int,int,int)", "redeem(int)", "forge(int)",
        "entry(int,int)", "parts(int,int,boolean)", "manager(int)", "held(int,int)",
        "paper(int,int,int,int,int)", "witness(int,int,boolean)", "alike(int,int)", "group(int)", "groups()",
        "many(int)"};

    public static void main(String[] args) throws IOException, IllegalAccessException {
        faceIsTheDocuments();
        nestedClassesAreStaticAndHidden();
        noPrivateMethodHasAPublicName();
        sourceIsAsTheDocumentSays(Path.of(args.length > 0 ? args[0] : "."));
        Check.end();
    }

    private static String types(Class<?>[] parameters) {
        StringBuilder made = new StringBuilder("(");
        for (Class<?> type : parameters) {
            made.append(made.length() > 1 ? "," : "").append(type.getName());
        }
        return made.append(')').toString();
    }

    private static boolean isHidden(Member member) {
        return Modifier.isPrivate(member.getModifiers());
    }

    private static void faceIsTheDocuments() throws IllegalAccessException {
        Set<String> seen = new TreeSet<>();
        for (Field f : HullRegister.class.getDeclaredFields()) {
            if (!isHidden(f)) {
                Check.due("modifiers of " + f.getName(), f.getModifiers(),
                        Modifier.PUBLIC | Modifier.STATIC | Modifier.FINAL);
                seen.add(f.getName() + " = " + f.getInt(null));
            }
        }
        for (Constructor<?> c : HullRegister.class.getDeclaredConstructors()) {
            Check.due("modifiers of the constructor", c.getModifiers(), Modifier.PUBLIC);
            seen.add("HullRegister" + types(c.getParameterTypes()));
        }
        for (Method m : HullRegister.class.getDeclaredMethods()) {
            if (!isHidden(m)) {
                Check.due("modifiers of " + m.getName(), m.getModifiers(), Modifier.PUBLIC);
                Check.holds(m.getName() + " answers int", m.getReturnType() == int.class);
                seen.add(m.getName() + types(m.getParameterTypes()));
            }
        }
        Set<String> due = new TreeSet<>(Set.of(FACE));
        Check.holds("the face is " + due + " (seen: " + seen + ")", due.equals(seen));
        Check.due("modifiers of the class", HullRegister.class.getModifiers(), Modifier.PUBLIC | Modifier.FINAL);
        Check.holds("the class extends nothing", HullRegister.class.getSuperclass() == Object.class);
    }

    private static void nestedClassesAreStaticAndHidden() {
        Class<?>[] nested = HullRegister.class.getDeclaredClasses();
        Check.holds("at most twelve classes", nested.length < 12);
        for (Class<?> c : nested) {
            Check.holds(c + " is static", Modifier.isStatic(c.getModifiers()));
            Check.holds(c + " isn't public", !Modifier.isPublic(c.getModifiers()));
            int fields = 0;
            for (Field f : c.getDeclaredFields()) {
                boolean constant = Modifier.isStatic(f.getModifiers());
                Check.holds(f + " is final if static", !constant || Modifier.isFinal(f.getModifiers()));
                fields += constant ? 0 : 1;
            }
            Check.holds(c + " has some twenty fields at most", fields <= 20);
            for (Method m : c.getDeclaredMethods()) {
                Check.holds(m + " takes at most seven", m.getParameterCount() <= 7);
            }
        }
    }

    private static void noPrivateMethodHasAPublicName() {
        Set<String> open = new HashSet<>();
        for (Method m : HullRegister.class.getMethods()) {
            open.add(m.getName());
        }
        for (Method m : HullRegister.class.getDeclaredMethods()) {
            Check.holds(m + " has its own name", !isHidden(m) || !open.contains(m.getName()));
        }
        for (Class<?> c : HullRegister.class.getDeclaredClasses()) {
            for (Method m : c.getDeclaredMethods()) {
                Check.holds(m + " has its own name", !open.contains(m.getName()));
            }
        }
    }

    private static void sourceIsAsTheDocumentSays(Path root) throws IOException {
        Path file = root.resolve("../shared/DOC.md");
        if (!Files.isReadable(file)) {
            System.out.println("no document to look the face up in: " + file);
            return;
        }
        String document = Files.readString(file);
        String source = Files.readString(root.resolve("src/main/java/HullRegister.java"));
        linesOfTheFaceStand(document, source);
        areasAreAheadOfTheirCalls(document, source);
    }

    /** Each line of the document's face, with its names of parameters, in its order. */
    private static void linesOfTheFaceStand(String document, String source) {
        Matcher lines = Pattern.compile("(?m)^(    public .*|public final class .*)$").matcher(document);
        int behind = 0;
        int seen = 0;
        while (lines.find()) {
            String line = lines.group(1).replace(");", ") {");
            int at = source.indexOf("\n" + line + "\n", behind);
            Check.holds("the source has in its place: " + line, at >= 0);
            behind = Math.max(behind, at);
            seen++;
        }
        Check.due("lines of the face", seen, 1 + FACE.length);
    }

    private static void areasAreAheadOfTheirCalls(String document, String source) {
        Matcher areas = Pattern.compile("Ahead of the calls (.*) the interface says: (---- \\w+)").matcher(document);
        int calls = 0;
        while (areas.find()) {
            for (String name : areas.group(1).replaceAll("[`,]", "").split(" ")) {
                int at = source.indexOf("public int " + name + "(");
                int head = source.lastIndexOf("// ----", Math.max(0, at));
                Check.holds("ahead of " + name + ": " + areas.group(2),
                        at >= 0 && head >= 0 && source.startsWith("// " + areas.group(2) + "\n", head));
                calls++;
            }
        }
        Check.due("calls of the areas", calls, 24);
    }
}
