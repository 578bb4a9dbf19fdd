/** Promises 1 to 7: a new object, and the acts. */
public final class ActsTest {
    private static final int NUMBER = HullRegister.NUMBER;
    private static final int FULL = HullRegister.FULL;
    private static final int NONE = HullRegister.NONE;
    private static final int KIND = HullRegister.KIND;
    private static final int NOTHING = HullRegister.NOTHING;
    private static final int[] WRONG_DAYS = {-1, 1000, Integer.MIN_VALUE, Integer.MAX_VALUE};

    public static void main(String[] args) {
        newObjectHasNothing();
        feedTakesLetters();
        feedIsFullBeyondForty();
        scrapDropsLetters();
        textsThatAreGoodOrNot();
        actComesOrIsRefused();
        inForceTellsTheLatest();
        tonsOfTexts();
        tonsOfWrongNumbers();
        shapesOfLeastTons();
        shapesOfWrongNumbers();
        Check.end();
    }

    private static void newObjectHasNothing() {
        HullRegister x = new HullRegister();
        for (int what = 0; what <= 8; what++) {
            Check.due("many(" + what + ") of a new object", x.many(what), 0);
        }
        Check.due("groups() of a new object", x.groups(), 0);
        Check.due("scrap() of a new object", x.scrap(), 0);
        Check.due("inForce(0) of a new object", x.inForce(0), NONE);
        Check.due("tons() of a new object", x.tons(0, 1, 1, 1, 0), NOTHING);
        Check.due("of() of a new object", x.of(0, 0), NOTHING);
        Check.due("entry() of a new object", x.entry(0, 0), NUMBER);
        Check.due("group() of a new object", x.group(0), NUMBER);
        Check.due("manager() of a new object", x.manager(0), NUMBER);
    }

    private static void feedTakesLetters() {
        HullRegister x = new HullRegister();
        Check.due("feed(0)", x.feed(0), 0);
        Check.due("feed of one", x.feed('l'), 1);
        Check.due("feed with a 0 ahead", x.feed('l' << 8), 1);
        Check.due("feed with a 0 between", x.feed('b' | '*' << 16), 2);
        Check.due("feed of three", x.feed(' ' | '*' << 8 | ' ' << 16), 5);
        Check.due("feed of four high bytes", x.feed(-1), 9);
        Check.due("feed of a high byte above a 0", x.feed(0x80000000), 9);
        Check.due("many(8)", x.many(8), 9);
        Check.due("scrap()", x.scrap(), 9);
        Check.feed(x, "lb-");
        Check.due("act(0)", x.act(0), 0);
        Check.due("tons: the lowest byte is first", x.tons(0, 9, 2, 1, 0), 7);
    }

    private static void feedIsFullBeyondForty() {
        HullRegister x = new HullRegister();
        Check.feed(x, "l                                     ");
        Check.due("many(8)", x.many(8), 38);
        Check.due("feed of four beyond", x.feed(Check.packed("++++", 0)), FULL);
        Check.due("feed of three beyond", x.feed(Check.packed("+++", 0)), FULL);
        Check.due("many(8) after FULL", x.many(8), 38);
        Check.due("feed up to 40", x.feed(Check.packed("b+", 0)), 40);
        Check.due("feed(0) at 40", x.feed(0), 40);
        Check.due("feed(256) at 40", x.feed(256), 40);
        Check.due("feed of one at 40", x.feed('l'), FULL);
        Check.due("act of 40 letters", x.act(0), 0);
        Check.due("many(8) after act", x.many(8), 0);
        Check.due("tons of 40 letters", x.tons(0, 3, 4, 5, 6), 7);
    }

    private static void scrapDropsLetters() {
        HullRegister x = new HullRegister();
        Check.feed(x, "llll*");
        Check.due("scrap()", x.scrap(), 5);
        Check.due("scrap() again", x.scrap(), 0);
        Check.due("many(8)", x.many(8), 0);
        Check.feed(x, "d");
        Check.due("act of what came after", x.act(0), 0);
        Check.due("tons", x.tons(0, 1, 2, 3, 4), 3);
    }

    private static void textsThatAreGoodOrNot() {
        for (String text : new String[] {"l", "b", "d", "r", "0", "9", "1234", "0000", " l ", "lb+", "1 2+",
            "lbdr+-*", "12l34*/", "l!", "1!2+", "l!!", "1!2!3!++", "lb+!", "9999 9999*", "l0/", "1234 5678+"}) {
            Check.isGood(text, true);
        }
        for (String text : new String[] {"", " ", "lb", "+", "l+", "l b", "!", "!l", "12345", "00001", "1 2",
            "x", "lx", "L", "l\t", "l\n", "lb%", "l(", "lb,", "lb.", "l:", "lb+-", "lbd+", "\u00ff", "l\u0080",
            "12345l+", "l12345+", "+lb", "l,b+", "lb\u00ab"}) {
            Check.isGood(text, false);
        }
        StringBuilder deep = new StringBuilder();
        for (int i = 0; i < 20; i++) {
            deep.append('1');
            deep.append(i < 19 ? " " : "");
        }
        Check.isGood(deep.toString(), false);
        Check.isGood("llllllllllllllllllll+++++++++++++++++++!", true);
        Check.isGood("llllllllllllllllllll++++++++++++++++++++", false);
        Check.isGood("llllllllllllllllllllllllllllllllllllllll", false);
    }

    private static void actComesOrIsRefused() {
        HullRegister x = new HullRegister();
        Check.feed(x, "lb");
        Check.due("act(-1): NUMBER ahead of KIND", x.act(-1), NUMBER);
        for (int day : WRONG_DAYS) {
            Check.due("act(" + day + ")", x.act(day), NUMBER);
        }
        Check.due("act(0)", x.act(0), KIND);
        Check.due("what is fed stays", x.many(8), 2);
        Check.due("feed behind it", x.feed('+'), 3);
        Check.due("act(1000)", x.act(1000), NUMBER);
        Check.due("what is fed stays", x.many(8), 3);
        Check.due("act(0)", x.act(0), 0);
        Check.due("nothing is fed then", x.many(8), 0);
        Check.due("act(0) with nothing fed", x.act(0), KIND);
        for (int i = 1; i < 5; i++) {
            Check.due("act " + i, Check.enact(x, "" + i, 999), i);
            Check.due("many(0)", x.many(0), i + 1);
        }
        Check.due("act(0): FULL ahead of KIND", x.act(0), FULL);
        Check.due("act(1000): NUMBER ahead of FULL", x.act(1000), NUMBER);
        Check.feed(x, "r");
        Check.due("act(0) when full", x.act(0), FULL);
        Check.due("what is fed stays", x.many(8), 1);
        Check.due("many(0)", x.many(0), 5);
        for (int i = 1; i < 5; i++) {
            Check.due("tons of act " + i, x.tons(i, 1, 1, 1, 1), i);
        }
        Check.due("tons of act 0", x.tons(0, 3, 4, 1, 1), 7);
    }

    private static void inForceTellsTheLatest() {
        HullRegister x = new HullRegister();
        Check.due("inForce(999) without acts", x.inForce(999), NONE);
        Check.enact(x, "l", 500);
        Check.enact(x, "b", 100);
        Check.enact(x, "d", 500);
        Check.enact(x, "r", 300);
        Check.due("inForce(0)", x.inForce(0), NONE);
        Check.due("inForce(99)", x.inForce(99), NONE);
        Check.due("inForce(100)", x.inForce(100), 1);
        Check.due("inForce(299)", x.inForce(299), 1);
        Check.due("inForce(300)", x.inForce(300), 3);
        Check.due("inForce(499)", x.inForce(499), 3);
        Check.due("inForce(500)", x.inForce(500), 2);
        Check.due("inForce(999)", x.inForce(999), 2);
        Check.enact(x, "1", 100);
        Check.due("inForce(100) after a like one", x.inForce(100), 4);
        Check.due("inForce(500) after it", x.inForce(500), 2);
        for (int day : WRONG_DAYS) {
            Check.due("inForce(" + day + ")", x.inForce(day), NUMBER);
        }
    }

    private static void tonsOfTexts() {
        Check.due("tons l", Check.tonsBy("l", 2, 3, 5, 7), 2);
        Check.due("tons b", Check.tonsBy("b", 2, 3, 5, 7), 3);
        Check.due("tons d", Check.tonsBy("d", 2, 3, 5, 7), 5);
        Check.due("tons r", Check.tonsBy("r", 2, 3, 5, 7), 7);
        Check.due("tons 1234", Check.tonsBy("1234", 1, 1, 1, 0), 1234);
        Check.due("tons 0907", Check.tonsBy("0907", 1, 1, 1, 0), 907);
        Check.due("tons 12 34+", Check.tonsBy("12 34+", 1, 1, 1, 0), 46);
        Check.due("tons 5l6++", Check.tonsBy("5l6++", 9, 1, 1, 0), 20);
        Check.due("tons 1!2+", Check.tonsBy("1!2+", 9, 1, 1, 0), 3);
        Check.due("tons lb+3*", Check.tonsBy("lb+3*", 2, 5, 1, 0), 21);
        Check.due("tons lb-", Check.tonsBy("lb-", 2, 5, 1, 0), -3);
        Check.due("tons lb-!", Check.tonsBy("lb-!", 2, 5, 1, 0), 0);
        Check.due("tons bl-!", Check.tonsBy("bl-!", 2, 5, 1, 0), 3);
        Check.due("tons: ! takes the top alone", Check.tonsBy("lb-5!+", 2, 5, 1, 0), 2);
        Check.due("tons 7 2/", Check.tonsBy("7 2/", 1, 1, 1, 0), 3);
        Check.due("tons 0 7-2/", Check.tonsBy("0 7-2/", 1, 1, 1, 0), -3);
        Check.due("tons 7 0 2-/", Check.tonsBy("7 0 2-/", 1, 1, 1, 0), -3);
        Check.due("tons 0 7-0 2-/", Check.tonsBy("0 7-0 2-/", 1, 1, 1, 0), 3);
        Check.due("tons 2 7/", Check.tonsBy("2 7/", 1, 1, 1, 0), 0);
        Check.due("tons l0/", Check.tonsBy("l0/", 9, 1, 1, 0), 0);
        Check.due("tons lr/", Check.tonsBy("lr/", 9, 1, 1, 0), 0);
        Check.due("tons lbb-/3+", Check.tonsBy("lbb-/3+", 9, 4, 1, 0), 3);
        tonsAtTheBounds();
    }

    private static void tonsAtTheBounds() {
        Check.due("tons 9999 9999*", Check.tonsBy("9999 9999*", 1, 1, 1, 0), 999999);
        Check.due("tons 1000 999*999+", Check.tonsBy("1000 999*999+", 1, 1, 1, 0), 999999);
        Check.due("tons 1000 999*998+", Check.tonsBy("1000 999*998+", 1, 1, 1, 0), 999998);
        Check.due("tons 1000 999*1000+", Check.tonsBy("1000 999*1000+", 1, 1, 1, 0), 999999);
        Check.due("tons 0 9999-9999*", Check.tonsBy("0 9999-9999*", 1, 1, 1, 0), -999999);
        Check.due("tons 0 9999-9999*1-", Check.tonsBy("0 9999-9999*1-", 1, 1, 1, 0), -999999);
        Check.due("tons 0 9999-9999*1+", Check.tonsBy("0 9999-9999*1+", 1, 1, 1, 0), -999998);
        Check.due("tons bounded, then less 1", Check.tonsBy("9999 9999*1-", 1, 1, 1, 0), 999998);
        Check.due("tons of two bounded", Check.tonsBy("9999 9999*9999 9999**", 1, 1, 1, 0), 999999);
        Check.due("tons of bounded by below", Check.tonsBy("9999 9999*0 9999-9999**", 1, 1, 1, 0), -999999);
        Check.due("tons of bounded less below", Check.tonsBy("9999 9999*0 9999-9999*-", 1, 1, 1, 0), 999999);
        Check.due("tons of the greatest ship", Check.tonsBy("lb*d*r+", 99, 99, 99, 999), 971298);
    }

    private static void tonsOfWrongNumbers() {
        HullRegister x = new HullRegister();
        Check.enact(x, "lbdr+++", 0);
        Check.due("tons of the least", x.tons(0, 1, 1, 1, 0), 3);
        Check.due("tons of the most", x.tons(0, 99, 99, 99, 999), 1296);
        for (int wrong : new int[] {0, 100, -1, Integer.MIN_VALUE, Integer.MAX_VALUE}) {
            Check.due("tons, length " + wrong, x.tons(0, wrong, 1, 1, 0), NOTHING);
            Check.due("tons, breadth " + wrong, x.tons(0, 1, wrong, 1, 0), NOTHING);
            Check.due("tons, depth " + wrong, x.tons(0, 1, 1, wrong, 0), NOTHING);
        }
        for (int wrong : new int[] {-1, 1000, Integer.MIN_VALUE, Integer.MAX_VALUE}) {
            Check.due("tons, rooms " + wrong, x.tons(0, 1, 1, 1, wrong), NOTHING);
        }
        for (int wrong : new int[] {-1, 1, 5, Integer.MIN_VALUE, Integer.MAX_VALUE}) {
            Check.due("tons, act " + wrong, x.tons(wrong, 1, 1, 1, 0), NOTHING);
        }
    }

    private static void isShape(String text, int cargo, int length, int breadth, int depth, int tons) {
        HullRegister x = new HullRegister();
        Check.due("act of \"" + text + "\"", Check.enact(x, text, 0), 0);
        String call = "shape of \"" + text + "\" for " + cargo + ", ";
        Check.due(call + "LENGTH", x.shape(0, cargo, 0), length);
        Check.due(call + "BREADTH", x.shape(0, cargo, 1), breadth);
        Check.due(call + "DEPTH", x.shape(0, cargo, 2), depth);
        Check.due(call + "TONS", x.shape(0, cargo, 3), tons);
    }

    private static void shapesOfLeastTons() {
        isShape("l", 1, 1, 1, 1, 1);
        isShape("7", 1728, 12, 12, 12, 7);
        isShape("7", 144, 1, 12, 12, 7);
        isShape("7", 145, 2, 7, 11, 7);
        isShape("7", 1, 1, 1, 1, 7);
        isShape("0l-", 1, 12, 1, 1, -12);
        isShape("0d-", 1, 1, 1, 12, -12);
        isShape("0b-", 1, 1, 12, 1, -12);
        isShape("lbd++", 27, 3, 3, 3, 9);
        isShape("lbd++", 28, 2, 3, 5, 10);
        isShape("lbd++", 31, 2, 4, 4, 10);
        isShape("b", 144, 12, 1, 12, 1);
        isShape("d", 145, 7, 11, 2, 2);
        isShape("r0 9-+", 13, 1, 2, 7, -9);
        isShape("lb*d*", 1727, 12, 12, 12, 1728);
        isShape("lb*d*", 1584, 11, 12, 12, 1584);
        isShape("lb*d*", 11, 1, 1, 11, 11);
        HullRegister x = new HullRegister();
        Check.enact(x, "l", 0);
        Check.enact(x, "b", 0);
        Check.due("shape of act 0", x.shape(0, 200, 0), 2);
        Check.due("shape of act 1", x.shape(1, 200, 0), 9);
        Check.due("shape of act 0 again", x.shape(0, 200, 0), 2);
    }

    private static void shapesOfWrongNumbers() {
        HullRegister x = new HullRegister();
        Check.due("shape without acts", x.shape(0, 1, 0), NOTHING);
        Check.enact(x, "l", 0);
        for (int wrong : new int[] {-1, 1, 5, Integer.MIN_VALUE, Integer.MAX_VALUE}) {
            Check.due("shape, act " + wrong, x.shape(wrong, 1, 0), NOTHING);
        }
        for (int wrong : new int[] {0, -1, 1729, Integer.MIN_VALUE, Integer.MAX_VALUE}) {
            Check.due("shape, cargo " + wrong, x.shape(0, wrong, 0), NOTHING);
        }
        for (int wrong : new int[] {-1, 4, Integer.MIN_VALUE, Integer.MAX_VALUE}) {
            Check.due("shape, what " + wrong, x.shape(0, 1, wrong), NOTHING);
        }
    }
}
