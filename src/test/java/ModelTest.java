import java.util.Random;

/** Runs of chosen-by-lot calls (always the same lots), each answer against that of PlainRegister. */
public final class ModelTest {
    private static final int RUNS = 300;
    private static final int CALLS = 512;
    private static final int[] FAR = {Integer.MIN_VALUE, Integer.MAX_VALUE, -2, 1 << 16, -(1 << 31) + 1};

    private final Random lots;
    private final HullRegister x = new HullRegister();
    private final PlainRegister plain = new PlainRegister();
    private final int leaning;
    private String text = "";

    private ModelTest(int run) {
        lots = new Random(run);
        leaning = run % 5;
    }

    public static void main(String[] args) {
        for (int run = 0; run < RUNS; run++) {
            ModelTest test = new ModelTest(run);
            for (int call = 0; call < CALLS; call++) {
                test.callOne("run " + run + ", call " + call + ": ");
            }
        }
        Check.end();
    }

    /** Mostly from least to most, sometimes just beyond, seldom far off. */
    private int lot(int least, int most) {
        int kind = lots.nextInt(60);
        if (kind == 0) {
            return FAR[lots.nextInt(FAR.length)];
        }
        if (kind == 1) {
            return lots.nextBoolean() ? least - 1 : most + 1;
        }
        if (kind < 6) {
            return lots.nextBoolean() ? least : most;
        }
        return least + lots.nextInt(most - least + 1);
    }

    private int day() {
        return leaning == 0 ? lot(0, 999) : lot(0, 12);
    }

    private int length() {
        return leaning == 1 ? lot(1, 99) : lot(1, 9);
    }

    private int parts() {
        return lots.nextInt(8) == 0 ? lot(1, 64) : lot(1, 14);
    }

    private int entry() {
        return lot(0, Math.max(0, x.many(2) - 1));
    }

    private int paper() {
        return lot(0, Math.max(0, x.many(6) - 1));
    }

    private void callOne(String where) {
        int area = lots.nextInt(10);
        if (leaning == 1 && area < 6) {
            area = 0;
        } else if (leaning == 2 && area < 7) {
            area = 5;
        } else if (leaning == 3 && area < 7) {
            area = 9;
        }
        if (area < 3) {
            callActs(where);
        } else if (area < 4) {
            callHulls(where);
        } else if (area < 8) {
            callEntries(where);
        } else {
            callPapers(where);
        }
    }

    /** A text by lot, that is good more often than not. */
    private String textByLot() {
        StringBuilder made = new StringBuilder();
        int lie = 0;
        int letters = 1 + lots.nextInt(24);
        for (int i = 0; i < letters; i++) {
            int kind = lots.nextInt(12);
            if (kind < 3 && lie > 1) {
                made.append("+-*/".charAt(lots.nextInt(4)));
                lie--;
            } else if (kind == 3 && lie > 0) {
                made.append('!');
            } else if (kind < 6) {
                made.append("lbdr".charAt(lots.nextInt(4)));
                lie++;
            } else if (kind < 9) {
                made.append(made.length() > 0 && Character.isDigit(made.charAt(made.length() - 1)) ? " " : "");
                made.append(lots.nextInt(lots.nextBoolean() ? 10 : 10000));
                lie++;
            } else if (kind == 9) {
                made.append(' ');
            } else if (lots.nextInt(60) == 0) {
                made.append((char) (1 + lots.nextInt(255)));
            }
        }
        for (; lie > 1 && lots.nextInt(40) > 0; lie--) {
            made.append("+-*/-".charAt(lots.nextInt(5)));
        }
        return made.length() > 40 ? made.substring(0, 40) : made.toString();
    }

    private void feedSome(String where) {
        if (text.isEmpty()) {
            text = textByLot();
        }
        int v = lots.nextInt(50) == 0 ? lots.nextInt() : Check.packed(text, 0);
        text = text.substring(Math.min(4, text.length()));
        Check.due(where + "feed(" + v + ")", x.feed(v), plain.feed(v));
        if (text.isEmpty()) {
            int day = day();
            Check.due(where + "act(" + day + ")", x.act(day), plain.act(day));
            if (lots.nextInt(6) > 0) {
                Check.due(where + "scrap()", x.scrap(), plain.scrap());
            }
        }
    }

    private void callActs(String where) {
        int a = lot(0, 4);
        int l = lot(1, 99);
        int b = lot(1, 99);
        int d = lot(1, 99);
        int r = lot(0, 999);
        switch (lots.nextInt(12)) {
            case 0: Check.due(where + "inForce(" + a + ")", x.inForce(a), plain.inForce(a)); break;
            case 1: Check.due(where + "inForce(" + r + ")", x.inForce(r), plain.inForce(r)); break;
            case 2: Check.due(where + "scrap()", x.scrap(), plain.scrap()); break;
            case 3: callShape(where); break;
            case 4:
            case 5: Check.due(where + "tons(" + a + ", " + l + ", " + b + ", " + d + ", " + r + ")",
                    x.tons(a, l, b, d, r), plain.tons(a, l, b, d, r)); break;
            default: feedSome(where);
        }
    }

    private void callShape(String where) {
        if (lots.nextInt(3) > 0) {
            return;
        }
        int a = lot(0, 4);
        int cargo = lots.nextBoolean() ? lot(1, 1728) : lot(1, 200);
        for (int what = -1; what <= 4; what++) {
            Check.due(where + "shape(" + a + ", " + cargo + ", " + what + ")",
                    x.shape(a, cargo, what), plain.shape(a, cargo, what));
        }
    }

    private void callHulls(String where) {
        int h = lot(0, 4);
        int l = length();
        int b = length();
        int d = length();
        int r = lot(0, 999);
        int day = day();
        int what = lot(0, 6);
        switch (lots.nextInt(5)) {
            case 0: Check.due(where + "hull(..)", x.hull(l, b, d, r), plain.hull(l, b, d, r)); break;
            case 1: Check.due(where + "alter(..)", x.alter(h, l, b, d, r), plain.alter(h, l, b, d, r)); break;
            case 2: Check.due(where + "measure(" + h + ", " + day + ")",
                    x.measure(h, day), plain.measure(h, day)); break;
            default: Check.due(where + "of(" + h + ", " + what + ")", x.of(h, what), plain.of(h, what));
        }
    }

    private void callEntries(String where) {
        int h = lots.nextInt(8) > 0 ? lots.nextInt(2) : lot(0, 4);
        int p = lots.nextInt(8) > 0 ? lots.nextInt(3) : lot(0, 7);
        int o = lots.nextInt(8) > 0 ? lots.nextInt(3) : lot(0, 7);
        int n = parts();
        int e = entry();
        int what = lot(0, 8);
        boolean free = lots.nextBoolean();
        switch (lots.nextInt(leaning == 2 ? 14 : 20)) {
            case 0: Check.due(where + "sell(..)", x.sell(h, p, o, n), plain.sell(h, p, o, n)); break;
            case 1: Check.due(where + "pledge(..)", x.pledge(h, p, o, n), plain.pledge(h, p, o, n)); break;
            case 2: Check.due(where + "redeem(" + e + ")", x.redeem(e), plain.redeem(e)); break;
            case 3:
                if (lots.nextInt(4) == 0) {
                    Check.due(where + "forge(" + e + ")", x.forge(e), plain.forge(e));
                }
                break;
            case 4: Check.due(where + "manager(" + h + ")", x.manager(h), plain.manager(h)); break;
            case 5: Check.due(where + "held(" + h + ", " + p + ")", x.held(h, p), plain.held(h, p)); break;
            case 6:
            case 7: Check.due(where + "parts(" + h + ", " + p + ", " + free + ")",
                    x.parts(h, p, free), plain.parts(h, p, free)); break;
            case 8: callMany(where); break;
            case 9: Check.due(where + "hull(9, 9, 9, 9)", x.hull(9, 9, 9, 9), plain.hull(9, 9, 9, 9)); break;
            default: Check.due(where + "entry(" + e + ", " + what + ")", x.entry(e, what), plain.entry(e, what));
        }
    }

    private void callMany(String where) {
        int what = lot(0, 8);
        Check.due(where + "many(" + what + ")", x.many(what), plain.many(what));
    }

    private void callPapers(String where) {
        int p = paper();
        int o = paper();
        boolean yes = lots.nextBoolean();
        switch (lots.nextInt(14)) {
            case 0: addPaper(where); break;
            case 1:
                if (lots.nextInt(3) == 0) {
                    Check.due(where + "witness(" + p + ", " + o + ", " + yes + ")",
                            x.witness(p, o, yes), plain.witness(p, o, yes));
                }
                break;
            case 2:
            case 3: Check.due(where + "alike(" + p + ", " + o + ")", x.alike(p, o), plain.alike(p, o)); break;
            case 4: callMany(where); break;
            case 5: Check.due(where + "groups()", x.groups(), plain.groups()); break;
            case 6: callGroups(where); break;
            default: Check.due(where + "group(" + p + ")", x.group(p), plain.group(p));
        }
    }

    private void callGroups(String where) {
        for (int paper = 0; paper < x.many(6); paper++) {
            Check.due(where + "group(" + paper + ")", x.group(paper), plain.group(paper));
        }
    }

    private void addPaper(String where) {
        int a = day();
        int b = lots.nextInt(6) > 0 && a < 2000 ? a + lots.nextInt(leaning == 0 ? 300 : 4) : day();
        int c = length();
        int d = lots.nextInt(6) > 0 && c < 2000 ? c + lots.nextInt(leaning == 1 ? 50 : 7) : length();
        int mark = lots.nextInt(4) > 0 ? lots.nextInt(3) : lot(0, 9);
        Check.due(where + "paper(" + a + ", " + b + ", " + c + ", " + d + ", " + mark + ")",
                x.paper(a, b, c, d, mark), plain.paper(a, b, c, d, mark));
    }
}
