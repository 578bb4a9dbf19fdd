import java.util.ArrayDeque;
import java.util.ArrayList;
import java.util.Arrays;
import java.util.Deque;
import java.util.List;

/** The document once more, by other ways: nothing is kept that can be told anew, and all is tried. */
final class PlainRegister {
    private static final int NUMBER = -1;
    private static final int FULL = -2;
    private static final int TWICE = -3;
    private static final int NONE = -4;
    private static final int KIND = -5;
    private static final int NOTHING = -10000000;

    private String fed = "";
    private final List<String> texts = new ArrayList<>();
    private final List<Integer> days = new ArrayList<>();
    private final List<int[]> hulls = new ArrayList<>();
    private final List<int[]> entries = new ArrayList<>();
    private final List<int[]> papers = new ArrayList<>();
    private final List<int[]> witnesses = new ArrayList<>();

    private static boolean among(int n, int least, int most) {
        return n >= least && n <= most;
    }

    private static boolean sizes(int... n) {
        return among(n[0], 1, 99) && among(n[1], 1, 99) && among(n[2], 1, 99) && among(n[3], 0, 999);
    }

    int feed(int v) {
        StringBuilder more = new StringBuilder();
        for (long left = v & 0xffffffffL; left % 256 != 0; left /= 256) {
            more.append((char) (left % 256));
        }
        if (fed.length() + more.length() > 40) {
            return FULL;
        }
        fed += more;
        return fed.length();
    }

    int scrap() {
        int n = fed.length();
        fed = "";
        return n;
    }

    /** Whether a text is good: its numbers by a pattern, its pile by counting. */
    static boolean good(String text) {
        if (!text.matches("[lbdr0-9 +*/!-]*") || text.matches(".*[0-9]{5}.*")) {
            return false;
        }
        int lie = 0;
        for (char c : text.replaceAll("[0-9]+", "n").toCharArray()) {
            int takes = "+-*/".indexOf(c) >= 0 ? 2 : c == '!' ? 1 : 0;
            if (takes > lie) {
                return false;
            }
            lie += c == ' ' ? 0 : 1 - takes;
        }
        return lie == 1;
    }

    static int run(String text, int length, int breadth, int depth, int rooms) {
        Deque<Long> pile = new ArrayDeque<>();
        String spaced = text.replaceAll("([0-9]+|[lbdr+*/!-])", " $1 ").trim();
        for (String word : spaced.split(" +")) {
            long top;
            switch (word) {
                case "l": pile.push((long) length); break;
                case "b": pile.push((long) breadth); break;
                case "d": pile.push((long) depth); break;
                case "r": pile.push((long) rooms); break;
                case "!": top = pile.pop(); pile.push(top < 0 ? 0L : top); break;
                case "+": top = pile.pop(); pile.push(near(pile.pop() + top)); break;
                case "-": top = pile.pop(); pile.push(near(pile.pop() - top)); break;
                case "*": top = pile.pop(); pile.push(near(pile.pop() * top)); break;
                case "/": top = pile.pop(); pile.push(quotient(pile.pop(), top)); break;
                default: pile.push(Long.parseLong(word));
            }
        }
        return (int) (long) pile.pop();
    }

    private static long near(long n) {
        return n > 999999 ? 999999 : n < -999999 ? -999999 : n;
    }

    private static long quotient(long n, long by) {
        if (by == 0) {
            return 0;
        }
        long whole = Math.abs(n) / Math.abs(by);
        return n < 0 == by < 0 ? whole : -whole;
    }

    int act(int day) {
        if (!among(day, 0, 999)) {
            return NUMBER;
        }
        if (texts.size() == 5) {
            return FULL;
        }
        if (!good(fed)) {
            return KIND;
        }
        texts.add(fed);
        days.add(day);
        fed = "";
        return texts.size() - 1;
    }

    int inForce(int day) {
        if (!among(day, 0, 999)) {
            return NUMBER;
        }
        for (int from = day; from >= 0; from--) {
            if (days.contains(from)) {
                return days.lastIndexOf(from);
            }
        }
        return NONE;
    }

    int tons(int act, int length, int breadth, int depth, int rooms) {
        if (!among(act, 0, texts.size() - 1) || !sizes(length, breadth, depth, rooms)) {
            return NOTHING;
        }
        return run(texts.get(act), length, breadth, depth, rooms);
    }

    int shape(int act, int cargo, int what) {
        if (!among(act, 0, texts.size() - 1) || !among(cargo, 1, 1728) || !among(what, 0, 3)) {
            return NOTHING;
        }
        int[] best = null;
        for (int l = 1; l <= 12; l++) {
            for (int b = 1; b <= 12; b++) {
                for (int d = 1; d <= 12; d++) {
                    if (l * b * d < cargo) {
                        continue;
                    }
                    int tons = run(texts.get(act), l, b, d, 0);
                    if (best == null || tons < best[3]) {
                        best = new int[] {l, b, d, tons};
                    }
                }
            }
        }
        return best[what];
    }

    int hull(int length, int breadth, int depth, int rooms) {
        if (!sizes(length, breadth, depth, rooms)) {
            return NUMBER;
        }
        if (hulls.size() == 5) {
            return FULL;
        }
        hulls.add(new int[] {length, breadth, depth, rooms, NOTHING, NOTHING, NOTHING});
        return hulls.size() - 1;
    }

    private boolean isHull(int hull) {
        return among(hull, 0, hulls.size() - 1);
    }

    int alter(int hull, int length, int breadth, int depth, int rooms) {
        if (!isHull(hull) || !sizes(length, breadth, depth, rooms)) {
            return NUMBER;
        }
        System.arraycopy(new int[] {length, breadth, depth, rooms}, 0, hulls.get(hull), 0, 4);
        return 1;
    }

    int measure(int hull, int day) {
        if (!isHull(hull) || !among(day, 0, 999)) {
            return NUMBER;
        }
        int act = inForce(day);
        if (act == NONE) {
            return NONE;
        }
        int[] h = hulls.get(hull);
        h[4] = run(texts.get(act), h[0], h[1], h[2], h[3]);
        h[5] = day;
        h[6] = act;
        return 1;
    }

    int of(int hull, int what) {
        return isHull(hull) && among(what, 0, 6) ? hulls.get(hull)[what] : NOTHING;
    }

    // An entry: which, hull, person, other, n, whether forged, the pledge of a redeem.

    private int enter(int which, int hull, int person, int other, int n) {
        if (!isHull(hull) || !among(person, 0, 7) || !among(other, 0, 7) || person == other || !among(n, 1, 64)) {
            return NUMBER;
        }
        if (entries.size() == 60) {
            return FULL;
        }
        entries.add(new int[] {which, hull, person, other, n, 0, NONE});
        return entries.size() - 1;
    }

    int sell(int hull, int person, int other, int n) {
        return enter(0, hull, person, other, n);
    }

    int pledge(int hull, int person, int other, int n) {
        return enter(1, hull, person, other, n);
    }

    private boolean isEntry(int entry) {
        return among(entry, 0, entries.size() - 1);
    }

    int redeem(int entry) {
        if (!isEntry(entry)) {
            return NUMBER;
        }
        int[] p = entries.get(entry);
        if (p[0] != 1) {
            return KIND;
        }
        if (entries.size() == 60) {
            return FULL;
        }
        entries.add(new int[] {2, p[1], p[2], p[3], p[4], 0, entry});
        return entries.size() - 1;
    }

    int forge(int entry) {
        if (!isEntry(entry)) {
            return NUMBER;
        }
        if (entries.get(entry)[5] == 1) {
            return TWICE;
        }
        entries.get(entry)[5] = 1;
        return 1;
    }

    /** By asking back from an entry on: whether it is neither forged nor void. */
    private boolean[] works() {
        boolean[] works = new boolean[entries.size()];
        for (int e = 0; e < works.length; e++) {
            int[] told = entries.get(e);
            if (told[5] == 1) {
                continue;
            }
            works[e] = told[0] == 2
                ? standsAt(works, told[6], e)
                : freeAt(works, told[1], told[2], e) >= told[4];
        }
        return works;
    }

    private boolean standsAt(boolean[] works, int pledge, int end) {
        if (entries.get(pledge)[0] != 1 || !works[pledge]) {
            return false;
        }
        for (int e = pledge + 1; e < end; e++) {
            if (works[e] && entries.get(e)[0] == 2 && entries.get(e)[6] == pledge) {
                return false;
            }
        }
        return true;
    }

    private int partsAt(boolean[] works, int hull, int person, int end) {
        int parts = person == 0 ? 64 : 0;
        for (int e = 0; e < end; e++) {
            int[] told = entries.get(e);
            if (works[e] && told[0] == 0 && told[1] == hull) {
                parts += (told[3] == person ? told[4] : 0) - (told[2] == person ? told[4] : 0);
            }
        }
        return parts;
    }

    private int freeAt(boolean[] works, int hull, int person, int end) {
        return partsAt(works, hull, person, end) - inPledges(works, hull, 2, person, end);
    }

    private int inPledges(boolean[] works, int hull, int column, int person, int end) {
        int parts = 0;
        for (int e = 0; e < end; e++) {
            int[] told = entries.get(e);
            if (told[1] == hull && told[column] == person && standsAt(works, e, end)) {
                parts += told[4];
            }
        }
        return parts;
    }

    int entry(int entry, int what) {
        if (!isEntry(entry) || !among(what, 0, 8)) {
            return NUMBER;
        }
        int[] told = entries.get(entry);
        boolean[] works = works();
        switch (what) {
            case 6: return told[5] == 0 && !works[entry] ? 1 : 0;
            case 7: return rank(works, entry);
            case 8: return told[6];
            default: return told[what];
        }
    }

    private int rank(boolean[] works, int entry) {
        if (!standsAt(works, entry, works.length)) {
            return NONE;
        }
        int rank = 0;
        for (int e = 0; e < entry; e++) {
            if (standsAt(works, e, works.length) && entries.get(e)[1] == entries.get(entry)[1]
                    && entries.get(e)[2] == entries.get(entry)[2]) {
                rank++;
            }
        }
        return rank;
    }

    int parts(int hull, int person, boolean free) {
        if (!isHull(hull) || !among(person, 0, 7)) {
            return NUMBER;
        }
        int end = entries.size();
        return free ? freeAt(works(), hull, person, end) : partsAt(works(), hull, person, end);
    }

    int manager(int hull) {
        if (!isHull(hull)) {
            return NUMBER;
        }
        for (int most = 64; most > 0; most--) {
            for (int person = 0; person < 8; person++) {
                if (parts(hull, person, false) == most) {
                    return person;
                }
            }
        }
        throw new IllegalStateException("nobody has a part");
    }

    int held(int hull, int person) {
        if (!isHull(hull) || !among(person, 0, 7)) {
            return NUMBER;
        }
        return inPledges(works(), hull, 3, person, entries.size());
    }

    int paper(int a, int b, int c, int d, int mark) {
        if (a < 0 || b > 999 || b < a || c < 1 || d > 99 || d < c || !among(mark, 0, 9)) {
            return NUMBER;
        }
        if (papers.size() == 8) {
            return FULL;
        }
        papers.add(new int[] {a, b, c, d, mark});
        return papers.size() - 1;
    }

    private boolean areTwo(int paper, int other) {
        return among(paper, 0, papers.size() - 1) && among(other, 0, papers.size() - 1) && paper != other;
    }

    /** What a witness of two papers said: 1 yes, 0 no, NONE. */
    private int said(int paper, int other) {
        for (int[] w : witnesses) {
            if (w[0] == paper && w[1] == other || w[0] == other && w[1] == paper) {
                return w[2];
            }
        }
        return NONE;
    }

    int witness(int paper, int other, boolean yes) {
        if (!areTwo(paper, other)) {
            return NUMBER;
        }
        if (said(paper, other) != NONE) {
            return TWICE;
        }
        if (witnesses.size() == 6) {
            return FULL;
        }
        witnesses.add(new int[] {paper, other, yes ? 1 : 0});
        return witnesses.size();
    }

    private static boolean meet(int from, int to, int otherFrom, int otherTo) {
        for (int n = from; n <= to; n++) {
            if (among(n, otherFrom, otherTo)) {
                return true;
            }
        }
        return false;
    }

    int alike(int paper, int other) {
        if (!areTwo(paper, other)) {
            return NUMBER;
        }
        if (said(paper, other) != NONE) {
            return said(paper, other);
        }
        int[] p = papers.get(paper);
        int[] o = papers.get(other);
        boolean marks = p[4] * o[4] == 0 || p[4] == o[4];
        return !meet(p[0], p[1], o[0], o[1]) && meet(p[2], p[3], o[2], o[3]) && marks ? 1 : 0;
    }

    /** Of all ways to number the papers by groups the best one, the fewest groups first. */
    private int[] joining() {
        int n = papers.size();
        boolean[][] like = new boolean[n][n];
        for (int i = 0; i < n; i++) {
            for (int j = 0; j < n; j++) {
                like[i][j] = i == j || alike(i, j) == 1;
            }
        }
        List<int[]> all = new ArrayList<>();
        numberings(new int[n], 0, 0, all);
        int[] best = null;
        for (int[] way : all) {
            if (lets(like, way) && (best == null || most(way) < most(best)
                    || most(way) == most(best) && Arrays.compare(way, best) < 0)) {
                best = way;
            }
        }
        return best;
    }

    private static void numberings(int[] way, int at, int used, List<int[]> all) {
        if (at == way.length) {
            all.add(way.clone());
            return;
        }
        for (int g = used; g >= 0; g--) {
            way[at] = g;
            numberings(way, at + 1, Math.max(used, g + 1), all);
        }
    }

    private static boolean lets(boolean[][] like, int[] way) {
        for (int i = 0; i < way.length; i++) {
            for (int j = 0; j < i; j++) {
                if (way[i] == way[j] && !like[i][j]) {
                    return false;
                }
            }
        }
        return true;
    }

    private static int most(int[] way) {
        int most = 0;
        for (int g : way) {
            most = Math.max(most, g + 1);
        }
        return most;
    }

    int group(int paper) {
        return among(paper, 0, papers.size() - 1) ? joining()[paper] : NUMBER;
    }

    int groups() {
        return most(joining());
    }

    int many(int what) {
        switch (what) {
            case 0: return texts.size();
            case 1: return hulls.size();
            case 2: return entries.size();
            case 3: case 4: case 5: return manyEntries(what);
            case 6: return papers.size();
            case 7: return witnesses.size();
            case 8: return fed.length();
            default: return NUMBER;
        }
    }

    private int manyEntries(int what) {
        boolean[] works = works();
        int n = 0;
        for (int e = 0; e < works.length; e++) {
            boolean forged = entries.get(e)[5] == 1;
            boolean counts = what == 3 ? forged
                : what == 4 ? !forged && !works[e]
                : standsAt(works, e, works.length);
            n += counts ? 1 : 0;
        }
        return n;
    }
}
