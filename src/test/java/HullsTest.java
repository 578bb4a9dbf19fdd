/** Promises 8 to 11: the hulls. */
public final class HullsTest {
    private static final int NUMBER = HullRegister.NUMBER;
    private static final int FULL = HullRegister.FULL;
    private static final int NONE = HullRegister.NONE;
    private static final int NOTHING = HullRegister.NOTHING;
    private static final int[] WRONG_MEASURES = {0, 100, -1, Integer.MIN_VALUE, Integer.MAX_VALUE};
    private static final int[] WRONG_ROOMS = {-1, 1000, Integer.MIN_VALUE, Integer.MAX_VALUE};
    private static final int[] WRONG_HULLS = {-1, 1, 5, Integer.MIN_VALUE, Integer.MAX_VALUE};

    public static void main(String[] args) {
        hullsCome();
        hullsWithWrongNumbers();
        alterLeavesTons();
        alterWithWrongNumbers();
        measureStaysTillAnew();
        measureIsRefused();
        ofTellsAll();
        Check.end();
    }

    private static void isHull(HullRegister x, int hull, int... told) {
        for (int what = 0; what < told.length; what++) {
            Check.due("of(" + hull + ", " + what + ")", x.of(hull, what), told[what]);
        }
    }

    private static void hullsCome() {
        HullRegister x = new HullRegister();
        Check.due("hull of the least", x.hull(1, 1, 1, 0), 0);
        Check.due("hull of the most", x.hull(99, 99, 99, 999), 1);
        Check.due("hull 2", x.hull(2, 3, 4, 5), 2);
        Check.due("hull 3", x.hull(6, 7, 8, 9), 3);
        Check.due("many(1)", x.many(1), 4);
        Check.due("hull 4", x.hull(10, 11, 12, 13), 4);
        Check.due("hull when full", x.hull(1, 1, 1, 1), FULL);
        Check.due("hull when full: NUMBER ahead", x.hull(0, 1, 1, 1), NUMBER);
        Check.due("many(1)", x.many(1), 5);
        isHull(x, 0, 1, 1, 1, 0, NOTHING, NOTHING, NOTHING);
        isHull(x, 1, 99, 99, 99, 999, NOTHING, NOTHING, NOTHING);
        isHull(x, 2, 2, 3, 4, 5, NOTHING, NOTHING, NOTHING);
        isHull(x, 3, 6, 7, 8, 9, NOTHING, NOTHING, NOTHING);
        isHull(x, 4, 10, 11, 12, 13, NOTHING, NOTHING, NOTHING);
    }

    private static void hullsWithWrongNumbers() {
        HullRegister x = new HullRegister();
        for (int wrong : WRONG_MEASURES) {
            Check.due("hull, length " + wrong, x.hull(wrong, 1, 1, 0), NUMBER);
            Check.due("hull, breadth " + wrong, x.hull(1, wrong, 1, 0), NUMBER);
            Check.due("hull, depth " + wrong, x.hull(1, 1, wrong, 0), NUMBER);
        }
        for (int wrong : WRONG_ROOMS) {
            Check.due("hull, rooms " + wrong, x.hull(1, 1, 1, wrong), NUMBER);
        }
        Check.due("many(1)", x.many(1), 0);
    }

    private static void alterLeavesTons() {
        HullRegister x = new HullRegister();
        Check.enact(x, "lbdr+++", 7);
        x.hull(1, 2, 3, 4);
        x.hull(5, 6, 7, 8);
        x.measure(0, 9);
        Check.due("alter(0, ..)", x.alter(0, 99, 98, 97, 999), 1);
        isHull(x, 0, 99, 98, 97, 999, 10, 9, 0);
        isHull(x, 1, 5, 6, 7, 8, NOTHING, NOTHING, NOTHING);
        Check.due("alter(1, ..)", x.alter(1, 1, 1, 1, 0), 1);
        isHull(x, 1, 1, 1, 1, 0, NOTHING, NOTHING, NOTHING);
        Check.due("alter to the same", x.alter(1, 1, 1, 1, 0), 1);
        x.measure(0, 10);
        isHull(x, 0, 99, 98, 97, 999, 1293, 10, 0);
    }

    private static void alterWithWrongNumbers() {
        HullRegister x = new HullRegister();
        Check.due("alter without hulls", x.alter(0, 1, 1, 1, 0), NUMBER);
        x.hull(2, 3, 4, 5);
        for (int wrong : WRONG_HULLS) {
            Check.due("alter, hull " + wrong, x.alter(wrong, 1, 1, 1, 0), NUMBER);
        }
        for (int wrong : WRONG_MEASURES) {
            Check.due("alter, length " + wrong, x.alter(0, wrong, 1, 1, 0), NUMBER);
            Check.due("alter, breadth " + wrong, x.alter(0, 1, wrong, 1, 0), NUMBER);
            Check.due("alter, depth " + wrong, x.alter(0, 1, 1, wrong, 0), NUMBER);
        }
        for (int wrong : WRONG_ROOMS) {
            Check.due("alter, rooms " + wrong, x.alter(0, 1, 1, 1, wrong), NUMBER);
        }
        isHull(x, 0, 2, 3, 4, 5);
    }

    private static void measureStaysTillAnew() {
        HullRegister x = new HullRegister();
        x.hull(10, 5, 2, 3);
        Check.enact(x, "lb*d*r-", 100);
        Check.due("measure(0, 100)", x.measure(0, 100), 1);
        isHull(x, 0, 10, 5, 2, 3, 97, 100, 0);
        Check.enact(x, "l", 50);
        Check.due("tons stay when an act comes", x.of(0, 4), 97);
        Check.due("measure(0, 60), an earlier day", x.measure(0, 60), 1);
        isHull(x, 0, 10, 5, 2, 3, 10, 60, 1);
        Check.enact(x, "0r-", 999);
        Check.due("measure(0, 998)", x.measure(0, 998), 1);
        isHull(x, 0, 10, 5, 2, 3, 97, 998, 0);
        Check.due("measure(0, 999)", x.measure(0, 999), 1);
        isHull(x, 0, 10, 5, 2, 3, -3, 999, 2);
        Check.enact(x, "0", 0);
        Check.due("measure(0, 0)", x.measure(0, 0), 1);
        isHull(x, 0, 10, 5, 2, 3, 0, 0, 3);
        Check.due("measure(0, 0) again", x.measure(0, 0), 1);
    }

    private static void measureIsRefused() {
        HullRegister x = new HullRegister();
        Check.due("measure without hulls", x.measure(0, 0), NUMBER);
        x.hull(1, 2, 3, 4);
        Check.due("measure without acts", x.measure(0, 999), NONE);
        Check.due("measure: NUMBER ahead of NONE", x.measure(0, 1000), NUMBER);
        Check.enact(x, "l", 10);
        Check.due("measure ahead of the act", x.measure(0, 9), NONE);
        Check.due("measure(0, 10)", x.measure(0, 10), 1);
        Check.due("measure ahead of the act", x.measure(0, 9), NONE);
        for (int wrong : WRONG_HULLS) {
            Check.due("measure, hull " + wrong, x.measure(wrong, 10), NUMBER);
        }
        for (int wrong : new int[] {-1, 1000, Integer.MIN_VALUE, Integer.MAX_VALUE}) {
            Check.due("measure, day " + wrong, x.measure(0, wrong), NUMBER);
        }
        isHull(x, 0, 1, 2, 3, 4, 1, 10, 0);
    }

    private static void ofTellsAll() {
        HullRegister x = new HullRegister();
        x.hull(1, 2, 3, 4);
        for (int wrong : WRONG_HULLS) {
            for (int what = 0; what <= 6; what++) {
                Check.due("of(" + wrong + ", " + what + ")", x.of(wrong, what), NOTHING);
            }
        }
        for (int wrong : new int[] {-1, 7, Integer.MIN_VALUE, Integer.MAX_VALUE}) {
            Check.due("of(0, " + wrong + ")", x.of(0, wrong), NOTHING);
        }
        x.hull(5, 6, 7, 8);
        Check.due("of(0, 7) is not the next hull's", x.of(0, 7), NOTHING);
        Check.due("of(1, -1) is not the last hull's", x.of(1, -1), NOTHING);
    }
}
