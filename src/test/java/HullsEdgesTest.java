import java.io.IOException;

/** Terms 2 and promises 8 to 11 at their edges: a test for each sentence that names one. */
public final class HullsEdgesTest {
    private static final int NUMBER = HullRegister.NUMBER;
    private static final int FULL = HullRegister.FULL;
    private static final int NONE = HullRegister.NONE;
    private static final int NOTHING = HullRegister.NOTHING;
    private static final int[] NO_DAYS = {-1, 1000, Integer.MIN_VALUE, Integer.MAX_VALUE};
    private static final int[] NO_MEASURES = {0, 100, -1, 256 + 1, Integer.MIN_VALUE, Integer.MAX_VALUE};
    private static final int[] NO_ROOMS = {-1, 1000, -999, Integer.MIN_VALUE, Integer.MAX_VALUE};
    /** Where there are two hulls; some of them times 7 or 8 would be within a row by wrap-around. */
    private static final int[] NO_HULLS = {-1, 2, 5, 1 << 29, 1 << 30, -(1 << 29), 613566757,
        Integer.MIN_VALUE, Integer.MAX_VALUE};

    public static void main(String[] args) throws IOException {
        theTermsOfHulls();
        measurings();
        theShape();
        comingAndAltering();
        measuringAndTelling();
        Check.endOfSentences(args);
    }

    private static void theTermsOfHulls() {
        fiveHullsAtMost();
        boundsOfNumbers();
    }

    private static void measurings() {
        byTheActInForceThen();
        byItsNumbersThen();
        tonsStayTillAnew();
        noTonsAtFirst();
    }

    private static void theShape() {
        sidesOfOneToTwelve();
        withoutRooms();
        productIsCargoOrMore();
        cargoOfOneAndOfAll();
        leastTons();
        leastLengthOfSeveral();
        thenLeastBreadth();
        thenLeastDepth();
    }

    private static void comingAndAltering() {
        aHullComes();
        hullWithWrongNumbers();
        hullWhenFull();
        numbersBecomeOthers();
        tonsStayWhenAltered();
        alterWithWrongNumbers();
    }

    private static void measuringAndTelling() {
        measureOfWrongNumbers();
        measureWithoutAct();
        whatOfHulls();
        nothingOfHulls();
        notMeasured();
    }

    private static void isHull(HullRegister x, int hull, int... told) {
        for (int what = 0; what < told.length; what++) {
            Check.due("of(" + hull + ", " + what + ")", x.of(hull, what), told[what]);
        }
    }

    private static HullRegister withAct(String text, int day) {
        HullRegister x = new HullRegister();
        Check.due("act of \"" + text + "\"", Check.enact(x, text, day), 0);
        return x;
    }

    private static void isShape(String text, int cargo, int... told) {
        HullRegister x = withAct(text, 0);
        for (int what = 0; what < told.length; what++) {
            Check.due("shape of \"" + text + "\" for " + cargo + ", " + what, x.shape(0, cargo, what), told[what]);
        }
    }

    private static void fiveHullsAtMost() {
        Check.sentence("terms 2", "HULLS are numbered from 0 as they come, 5 at most");
        HullRegister x = new HullRegister();
        for (int i = 0; i < 5; i++) {
            Check.due("hull " + i, x.hull(i + 1, i + 11, i + 21, i + 31), i);
            Check.due("many(1)", x.many(1), i + 1);
        }
        Check.due("a sixth hull", x.hull(1, 1, 1, 1), FULL);
        Check.due("many(1)", x.many(1), 5);
        for (int i = 0; i < 5; i++) {
            isHull(x, i, i + 1, i + 11, i + 21, i + 31);
        }
        Check.due("of(5, 0)", x.of(5, 0), NOTHING);
    }

    private static void boundsOfNumbers() {
        Check.sentence("terms 2", "each with LENGTH, BREADTH, DEPTH (1 to 99) and ROOMS (0 to 999)");
        HullRegister x = new HullRegister();
        Check.due("the least", x.hull(1, 1, 1, 0), 0);
        Check.due("the greatest", x.hull(99, 99, 99, 999), 1);
        isHull(x, 0, 1, 1, 1, 0);
        isHull(x, 1, 99, 99, 99, 999);
        Check.due("length 0", x.hull(0, 1, 1, 0), NUMBER);
        Check.due("breadth 0", x.hull(1, 0, 1, 0), NUMBER);
        Check.due("depth 0", x.hull(1, 1, 0, 0), NUMBER);
        Check.due("rooms -1", x.hull(1, 1, 1, -1), NUMBER);
        Check.due("length 100", x.hull(100, 99, 99, 999), NUMBER);
        Check.due("breadth 100", x.hull(99, 100, 99, 999), NUMBER);
        Check.due("depth 100", x.hull(99, 99, 100, 999), NUMBER);
        Check.due("rooms 1000", x.hull(99, 99, 99, 1000), NUMBER);
    }

    private static void byTheActInForceThen() {
        Check.sentence("terms 2", "A MEASURING of a HULL, on a DAY, gives it TONS by the ACT IN FORCE then");
        HullRegister x = withAct("l", 10);
        Check.enact(x, "b", 20);
        Check.enact(x, "d", 20);
        x.hull(7, 8, 9, 6);
        Check.due("measure(0, 19)", x.measure(0, 19), 1);
        isHull(x, 0, 7, 8, 9, 6, 7, 19, 0);
        Check.due("measure(0, 20)", x.measure(0, 20), 1);
        isHull(x, 0, 7, 8, 9, 6, 9, 20, 2);
        Check.due("measure(0, 10), an earlier day", x.measure(0, 10), 1);
        isHull(x, 0, 7, 8, 9, 6, 7, 10, 0);
        Check.enact(x, "r", 0);
        Check.due("measure(0, 9) by an act that came later", x.measure(0, 9), 1);
        isHull(x, 0, 7, 8, 9, 6, 6, 9, 3);
    }

    private static void byItsNumbersThen() {
        Check.sentence("terms 2", "and by its numbers then");
        HullRegister x = withAct("lb*d*r+", 0);
        x.hull(1, 1, 1, 0);
        x.hull(2, 3, 4, 5);
        x.measure(0, 0);
        Check.due("tons of the least", x.of(0, 4), 1);
        x.alter(0, 99, 99, 99, 999);
        x.measure(0, 0);
        Check.due("tons of the greatest", x.of(0, 4), 971298);
        x.measure(1, 0);
        Check.due("tons of the other hull", x.of(1, 4), 29);
    }

    private static void tonsStayTillAnew() {
        Check.sentence("terms 2", "they stay till it is MEASURED anew");
        HullRegister x = withAct("l", 5);
        x.hull(7, 8, 9, 6);
        x.hull(1, 2, 3, 4);
        x.measure(0, 5);
        x.alter(0, 50, 8, 9, 6);
        Check.due("when it is altered", x.of(0, 4), 7);
        Check.enact(x, "b", 5);
        Check.due("when an act comes", x.of(0, 4), 7);
        Check.due("by the act of then", x.of(0, 6), 0);
        x.measure(1, 900);
        Check.due("when another hull is measured", x.of(0, 4), 7);
        Check.due("a measuring that is refused", x.measure(0, 4), NONE);
        Check.due("another one", x.measure(0, 1000), NUMBER);
        isHull(x, 0, 50, 8, 9, 6, 7, 5, 0);
        Check.due("measured anew", x.measure(0, 6), 1);
        isHull(x, 0, 50, 8, 9, 6, 8, 6, 1);
    }

    private static void noTonsAtFirst() {
        Check.sentence("terms 2", "(none at first)");
        HullRegister x = withAct("l", 0);
        x.hull(7, 8, 9, 6);
        isHull(x, 0, 7, 8, 9, 6, NOTHING, NOTHING, NOTHING);
        x.measure(0, 0);
        x.hull(7, 8, 9, 6);
        isHull(x, 1, 7, 8, 9, 6, NOTHING, NOTHING, NOTHING);
    }

    private static void sidesOfOneToTwelve() {
        Check.sentence("terms 2", "of all with LENGTH, BREADTH, DEPTH 1 to 12 each");
        isShape("0l-", 1, 12, 1, 1, -12);
        isShape("0b-", 1, 1, 12, 1, -12);
        isShape("0d-", 1, 1, 1, 12, -12);
        isShape("l", 144, 1, 12, 12, 1);
        isShape("b", 144, 12, 1, 12, 1);
        isShape("d", 144, 12, 12, 1, 1);
        isShape("l", 145, 2, 7, 11, 2);
        isShape("0lb*d*-", 1, 12, 12, 12, -1728);
    }

    private static void withoutRooms() {
        Check.sentence("terms 2", "without ROOMS");
        isShape("r", 1, 1, 1, 1, 0);
        isShape("0r-", 1, 1, 1, 1, 0);
        isShape("lr+", 12, 1, 1, 12, 1);
        isShape("9r/", 1728, 12, 12, 12, 0);
    }

    private static void productIsCargoOrMore() {
        Check.sentence("terms 2", "whose product is CARGO or more");
        isShape("lbd++", 27, 3, 3, 3, 9);
        isShape("lbd++", 28, 2, 3, 5, 10);
        isShape("lbd++", 30, 2, 3, 5, 10);
        isShape("lbd++", 31, 2, 4, 4, 10);
        isShape("lb*d*", 13, 1, 2, 7, 14);
        isShape("lb*d*", 1584, 11, 12, 12, 1584);
        isShape("lb*d*", 1585, 12, 12, 12, 1728);
        isShape("lb*d*", 1727, 12, 12, 12, 1728);
        everyCargoHasTheLeastProduct();
    }

    private static void everyCargoHasTheLeastProduct() {
        boolean[] product = new boolean[1729];
        for (int i = 0; i < 1728; i++) {
            product[(i / 144 + 1) * (i / 12 % 12 + 1) * (i % 12 + 1)] = true;
        }
        HullRegister x = new HullRegister();
        int least = 1728;
        for (int cargo = 1728; cargo >= 1; cargo--) {
            // An object is used for 512 calls at most.
            if (cargo % 400 == 0 || cargo == 1728) {
                x = withAct("lb*d*", 0);
            }
            least = product[cargo] ? cargo : least;
            Check.due("tons of the shape for " + cargo, x.shape(0, cargo, 3), least);
        }
    }

    private static void cargoOfOneAndOfAll() {
        Check.sentence("promise 7", "cargo isn't 1 to 1728");
        isShape("7", 1, 1, 1, 1, 7);
        isShape("7", 1728, 12, 12, 12, 7);
        isShape("0lb*d*-", 1728, 12, 12, 12, -1728);
        isShape("lb*d*", 1, 1, 1, 1, 1);
        HullRegister x = withAct("7", 0);
        Check.due("a cargo of 0", x.shape(0, 0, 3), NOTHING);
        Check.due("a cargo of 1729", x.shape(0, 1729, 3), NOTHING);
    }

    private static void leastTons() {
        Check.sentence("terms 2", "the one that has the least TONS by that ACT");
        isShape("0l-b-d-", 1, 12, 12, 12, -36);
        isShape("l6-l6-*b3-b3-*+d9-d9-*+", 1, 6, 3, 9, 0);
        isShape("l6-l6-*b3-b3-*+d9-d9-*+", 163, 6, 3, 10, 1);
        isShape("0l-999 1000**", 1, 2, 1, 1, -999999);
        HullRegister x = withAct("l", 0);
        Check.enact(x, "b", 0);
        Check.due("by act 0", x.shape(0, 200, 0), 2);
        Check.due("by act 1", x.shape(1, 200, 1), 2);
        Check.due("by act 0 again", x.shape(0, 200, 0), 2);
        Check.due("by act 1, LENGTH", x.shape(1, 200, 0), 9);
    }

    private static void leastLengthOfSeveral() {
        Check.sentence("terms 2", "of several the least LENGTH");
        isShape("7", 12, 1, 1, 12, 7);
        isShape("7", 145, 2, 7, 11, 7);
        isShape("d", 12, 1, 12, 1, 1);
        isShape("lb*", 1728, 12, 12, 12, 144);
        isShape("lb+", 144, 3, 4, 12, 7);
        isShape("0", 1, 1, 1, 1, 0);
    }

    private static void thenLeastBreadth() {
        Check.sentence("terms 2", "then BREADTH");
        isShape("l", 12, 1, 1, 12, 1);
        isShape("l", 13, 1, 2, 7, 1);
        isShape("l", 132, 1, 11, 12, 1);
        isShape("lbd++", 30, 2, 3, 5, 10);
    }

    private static void thenLeastDepth() {
        Check.sentence("terms 2", "then DEPTH");
        isShape("lb+", 5, 1, 1, 5, 2);
        isShape("lb+", 12, 1, 1, 12, 2);
        isShape("lb+", 13, 1, 2, 7, 3);
        isShape("7", 7, 1, 1, 7, 7);
    }

    private static void aHullComes() {
        Check.sentence("promise 8", "A HULL comes: its number.");
        HullRegister x = new HullRegister();
        Check.due("many(1) at first", x.many(1), 0);
        Check.due("the first", x.hull(9, 8, 7, 6), 0);
        Check.due("a like one", x.hull(9, 8, 7, 6), 1);
        Check.due("many(1)", x.many(1), 2);
        isHull(x, 1, 9, 8, 7, 6, NOTHING, NOTHING, NOTHING);
        Check.due("its parts", x.parts(1, 0, true), 64);
    }

    private static void hullWithWrongNumbers() {
        Check.sentence("promise 8", "NUMBER: a number isn't as told");
        HullRegister x = new HullRegister();
        for (int wrong : NO_MEASURES) {
            Check.due("hull, length " + wrong, x.hull(wrong, 1, 1, 0), NUMBER);
            Check.due("hull, breadth " + wrong, x.hull(1, wrong, 1, 0), NUMBER);
            Check.due("hull, depth " + wrong, x.hull(1, 1, wrong, 0), NUMBER);
        }
        for (int wrong : NO_ROOMS) {
            Check.due("hull, rooms " + wrong, x.hull(1, 1, 1, wrong), NUMBER);
        }
        Check.due("many(1)", x.many(1), 0);
        Check.due("the next one is the first", x.hull(1, 1, 1, 0), 0);
    }

    private static void hullWhenFull() {
        Check.sentence("promise 8", "FULL.");
        HullRegister x = new HullRegister();
        for (int i = 0; i < 5; i++) {
            Check.due("hull " + i, x.hull(9, 9, 9, 9), i);
        }
        Check.due("hull when full", x.hull(1, 1, 1, 0), FULL);
        Check.due("hull when full, again", x.hull(1, 1, 1, 0), FULL);
        Check.due("many(1)", x.many(1), 5);
        isHull(x, 4, 9, 9, 9, 9);
    }

    private static void numbersBecomeOthers() {
        Check.sentence("promise 9", "Numbers of a HULL become others (its TONS stay): 1.");
        HullRegister x = new HullRegister();
        x.hull(2, 3, 4, 5);
        x.hull(6, 7, 8, 9);
        Check.due("alter to the least", x.alter(0, 1, 1, 1, 0), 1);
        isHull(x, 0, 1, 1, 1, 0, NOTHING, NOTHING, NOTHING);
        Check.due("alter to the greatest", x.alter(0, 99, 99, 99, 999), 1);
        isHull(x, 0, 99, 99, 99, 999, NOTHING, NOTHING, NOTHING);
        Check.due("alter to the same", x.alter(0, 99, 99, 99, 999), 1);
        isHull(x, 1, 6, 7, 8, 9, NOTHING, NOTHING, NOTHING);
        Check.due("many(1)", x.many(1), 2);
    }

    private static void tonsStayWhenAltered() {
        Check.sentence("promise 9", "(its TONS stay)");
        HullRegister x = withAct("lbdr+++", 3);
        x.hull(2, 3, 4, 5);
        x.measure(0, 8);
        x.alter(0, 50, 60, 70, 80);
        isHull(x, 0, 50, 60, 70, 80, 14, 8, 0);
        x.measure(0, 9);
        isHull(x, 0, 50, 60, 70, 80, 260, 9, 0);
    }

    private static void alterWithWrongNumbers() {
        Check.sentence("promise 9", "NUMBER: there is none such, or as of hull().");
        HullRegister x = new HullRegister();
        Check.due("alter without hulls", x.alter(0, 1, 1, 1, 0), NUMBER);
        x.hull(2, 3, 4, 5);
        x.hull(6, 7, 8, 9);
        for (int wrong : NO_HULLS) {
            Check.due("alter, hull " + wrong, x.alter(wrong, 1, 1, 1, 0), NUMBER);
        }
        for (int wrong : NO_MEASURES) {
            Check.due("alter, length " + wrong, x.alter(1, wrong, 1, 1, 0), NUMBER);
            Check.due("alter, breadth " + wrong, x.alter(1, 1, wrong, 1, 0), NUMBER);
            Check.due("alter, depth " + wrong, x.alter(1, 1, 1, wrong, 0), NUMBER);
        }
        for (int wrong : NO_ROOMS) {
            Check.due("alter, rooms " + wrong, x.alter(1, 1, 1, 1, wrong), NUMBER);
        }
        isHull(x, 0, 2, 3, 4, 5);
        isHull(x, 1, 6, 7, 8, 9);
        x.hull(1, 1, 1, 1);
        x.hull(1, 1, 1, 1);
        x.hull(1, 1, 1, 1);
        Check.due("alter of the last when full", x.alter(4, 2, 2, 2, 2), 1);
        Check.due("alter of one beyond", x.alter(5, 2, 2, 2, 2), NUMBER);
    }

    private static void measureOfWrongNumbers() {
        Check.sentence("promise 10", "A MEASURING: 1. NUMBER: there is no such HULL, DAY");
        HullRegister x = withAct("l", 0);
        Check.due("measure without hulls", x.measure(0, 0), NUMBER);
        x.hull(2, 3, 4, 5);
        x.hull(6, 7, 8, 9);
        for (int wrong : NO_HULLS) {
            Check.due("measure, hull " + wrong, x.measure(wrong, 0), NUMBER);
        }
        for (int wrong : NO_DAYS) {
            Check.due("measure, day " + wrong, x.measure(1, wrong), NUMBER);
        }
        isHull(x, 1, 6, 7, 8, 9, NOTHING, NOTHING, NOTHING);
        Check.due("measure(1, 0)", x.measure(1, 0), 1);
        Check.due("measure(1, 999)", x.measure(1, 999), 1);
        isHull(x, 1, 6, 7, 8, 9, 6, 999, 0);
        isHull(x, 0, 2, 3, 4, 5, NOTHING, NOTHING, NOTHING);
    }

    private static void measureWithoutAct() {
        Check.sentence("promise 10", "NONE: no ACT is IN FORCE.");
        HullRegister x = new HullRegister();
        x.hull(7, 8, 9, 6);
        Check.due("without acts", x.measure(0, 0), NONE);
        Check.due("without acts, on the last day", x.measure(0, 999), NONE);
        Check.enact(x, "l", 500);
        Check.due("a day ahead of the act", x.measure(0, 499), NONE);
        isHull(x, 0, 7, 8, 9, 6, NOTHING, NOTHING, NOTHING);
        Check.due("on the day of the act", x.measure(0, 500), 1);
        Check.due("a day ahead of the act again", x.measure(0, 499), NONE);
        isHull(x, 0, 7, 8, 9, 6, 7, 500, 0);
    }

    private static void whatOfHulls() {
        Check.sentence("promise 11",
                "Of a HULL: what = 0 LENGTH, 1 BREADTH, 2 DEPTH, 3 ROOMS, 4 TONS, 5 the DAY when it was"
                + " MEASURED, 6 the ACT by which.");
        HullRegister x = withAct("0l-", 0);
        Check.enact(x, "0lb*d*-r-", 30);
        x.hull(2, 3, 4, 5);
        x.hull(6, 7, 8, 9);
        x.measure(0, 31);
        x.measure(1, 0);
        isHull(x, 0, 2, 3, 4, 5, -29, 31, 1);
        isHull(x, 1, 6, 7, 8, 9, -6, 0, 0);
    }

    private static void nothingOfHulls() {
        Check.sentence("promise 11", "NOTHING: there is none such, another what");
        HullRegister x = withAct("l", 0);
        Check.due("of() without hulls", x.of(0, 0), NOTHING);
        x.hull(2, 3, 4, 5);
        x.hull(6, 7, 8, 9);
        x.measure(0, 0);
        x.measure(1, 0);
        for (int wrong : NO_HULLS) {
            for (int what = 0; what <= 6; what++) {
                Check.due("of(" + wrong + ", " + what + ")", x.of(wrong, what), NOTHING);
            }
        }
        for (int wrong : new int[] {-1, 7, -7, 8, 14, Integer.MIN_VALUE, Integer.MAX_VALUE}) {
            Check.due("of(0, " + wrong + ")", x.of(0, wrong), NOTHING);
            Check.due("of(1, " + wrong + ")", x.of(1, wrong), NOTHING);
        }
    }

    private static void notMeasured() {
        Check.sentence("promise 11", "or it wasn't MEASURED (4 to 6)");
        HullRegister x = withAct("l", 5);
        x.hull(2, 3, 4, 5);
        x.hull(6, 7, 8, 9);
        x.measure(1, 5);
        Check.due("a measuring that is refused", x.measure(0, 4), NONE);
        x.alter(0, 1, 1, 1, 1);
        for (int what = 4; what <= 6; what++) {
            Check.due("of(0, " + what + ")", x.of(0, what), NOTHING);
        }
        Check.due("what 3 is told", x.of(0, 3), 1);
        x.measure(0, 5);
        isHull(x, 0, 1, 1, 1, 1, 1, 5, 0);
    }
}
