import java.util.List;
import java.util.Random;

/** Calls with far-off arguments in many states: none throws, and what is refused changes nothing. */
public final class RefusalTest {
    private static final int[] FAR = {Integer.MIN_VALUE, Integer.MIN_VALUE + 1, -1000, -64, -2, -1, 0, 1, 2, 4, 5,
        6, 7, 8, 9, 12, 40, 59, 60, 64, 65, 99, 100, 999, 1000, 1728, 1729, 1 << 29, Integer.MAX_VALUE};
    private static final int KINDS = 25;

    private final Random lots;

    private RefusalTest(int seed) {
        lots = new Random(seed);
    }

    public static void main(String[] args) {
        for (int run = 0; run < 150; run++) {
            new RefusalTest(run).runOne(run);
        }
        callsBeyondTheLimitStillEnd();
        Check.end();
    }

    private void runOne(int run) {
        HullRegister x = new HullRegister();
        int settled = run % 4 * 60;
        for (int i = 0; i < settled; i++) {
            call(x, lots.nextInt(KINDS), true);
        }
        for (int i = 0; i < 200; i++) {
            int kind = lots.nextInt(KINDS);
            List<Integer> before = Check.allTold(x);
            int answer = call(x, kind, lots.nextInt(3) == 0);
            if (answer < 0 || isTelling(kind)) {
                Check.holds("run " + run + ", call " + i + " (kind " + kind + ") answered " + answer
                        + " and changed nothing", before.equals(Check.allTold(x)));
            }
        }
    }

    private static void callsBeyondTheLimitStillEnd() {
        RefusalTest test = new RefusalTest(-1);
        HullRegister x = new HullRegister();
        for (int i = 0; i < 20000; i++) {
            test.call(x, test.lots.nextInt(KINDS), test.lots.nextBoolean());
        }
    }

    /** The calls that only tell: 13 of the kinds that call() numbers. */
    private static boolean isTelling(int kind) {
        return kind >= 12;
    }

    private int any(boolean near, int least, int most) {
        if (near) {
            return least + lots.nextInt(most - least + 1);
        }
        return lots.nextInt(4) == 0 ? lots.nextInt() : FAR[lots.nextInt(FAR.length)];
    }

    private int letters(boolean near) {
        String some = "lbdr019 +-*/!";
        int v = near ? 0 : lots.nextInt();
        for (int i = 0; near && i < 1 + lots.nextInt(4); i++) {
            v = v << 8 | some.charAt(lots.nextInt(some.length()));
        }
        return v;
    }

    private int call(HullRegister x, int kind, boolean near) {
        int h = any(near, 0, 4);
        int p = any(near, 0, 7);
        int o = any(near, 0, 7);
        int n = any(near, 1, 64);
        int e = any(near, 0, Math.max(0, x.many(2) - 1));
        int l = any(near, 1, 99);
        int m = any(near, 1, 99);
        int r = any(near, 0, 999);
        int what = any(near, 0, 8);
        boolean yes = lots.nextBoolean();
        switch (kind) {
            case 0: return x.feed(letters(near));
            case 1: return lots.nextInt(4) == 0 ? x.feed(0) : x.act(r);
            case 2: return lots.nextInt(4) == 0 ? x.feed('l') : x.act(r);
            case 3: return x.hull(l, m, n, r);
            case 4: return x.alter(h, l, m, n, r);
            case 5: return x.measure(h, r);
            case 6: return x.sell(h, p, o, n);
            case 7: return x.pledge(h, p, o, n);
            case 8: return x.redeem(e);
            case 9: return lots.nextInt(4) == 0 ? x.forge(e) : x.scrap();
            case 10: return x.paper(near ? r / 4 : r, near ? r / 4 + n : n, l, m, any(near, 0, 9));
            case 11: return x.witness(p, o, yes);
            case 12: return x.inForce(r);
            case 13: return x.tons(h, l, m, n, r);
            case 14: return x.shape(h, any(near, 1, 1728), any(near, 0, 3));
            case 15: return x.of(h, what);
            case 16: return x.entry(e, what);
            case 17: return x.parts(h, p, yes);
            case 18: return x.manager(h);
            case 19: return x.held(h, p);
            case 20: return x.alike(p, o);
            case 21: return x.group(p);
            case 22: return x.groups();
            default: return x.many(what);
        }
    }
}
