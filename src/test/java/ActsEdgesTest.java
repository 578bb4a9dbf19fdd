import java.io.IOException;

/** Terms 1 and promises 2 to 7 at their edges: a test for each sentence that names one. */
public final class ActsEdgesTest {
    private static final int NUMBER = HullRegister.NUMBER;
    private static final int FULL = HullRegister.FULL;
    private static final int NONE = HullRegister.NONE;
    private static final int KIND = HullRegister.KIND;
    private static final int NOTHING = HullRegister.NOTHING;
    private static final int[] NO_DAYS = {-1, 1000, 1001, -999, Integer.MIN_VALUE, Integer.MAX_VALUE};
    private static final int[] NO_MEASURES = {0, 100, -1, -99, 256 + 1, Integer.MIN_VALUE, Integer.MAX_VALUE};
    private static final int[] NO_ROOMS = {-1, 1000, -999, Integer.MIN_VALUE, Integer.MAX_VALUE};

    public static void main(String[] args) throws IOException {
        theTermsOfActs();
        whatLettersDo();
        whatIsGood();
        whatIsPushed();
        whichIsInForce();
        feeding();
        scrapping();
        enacting();
        tellingOfActs();
        Check.endOfSentences(args);
    }

    private static void theTermsOfActs() {
        fiveActsAtMost();
        daysOfActs();
        fortyLettersAtMost();
        readFromTheLeft();
        nothingLiesAtFirst();
    }

    private static void whatLettersDo() {
        sizesArePushed();
        aFigureIsPushed();
        figuresMakeOneNumber();
        aBlankDoesNothing();
        twoOnTopAreTaken();
        quotientsHaveNoRest();
        belowZeroBecomesZero();
    }

    private static void whatIsGood() {
        noOtherLetter();
        noneTakesMoreThanLieThere();
        fourFiguresAtMost();
        justOneIsLeft();
    }

    private static void whatIsPushed() {
        atMost();
        atLeast();
        quotientByZero();
    }

    private static void whichIsInForce() {
        theGreatestDayThatHasCome();
        theGreatestNumberOfLikeOnes();
        inForceOfEveryDay();
        noDayOfInForce();
        noneInForce();
    }

    private static void feeding() {
        lettersComeBehind();
        bytesUpToTheFirstZero();
        howManyAreFed();
        moreThanForty();
    }

    private static void scrapping() {
        nothingIsFedAnyMore();
    }

    private static void enacting() {
        whatIsFedBecomesAnAct();
        noDayOfAct();
        fullOfActs();
        notGoodStays();
    }

    private static void tellingOfActs() {
        tonsOfToldNumbers();
        nothingOfTons();
        whatOfShape();
        nothingOfShape();
    }

    /** A text that is followed by blanks till it has a number of letters. */
    private static String padded(String text, int letters) {
        return text + " ".repeat(letters - text.length());
    }

    private static void fiveActsAtMost() {
        Check.sentence("terms 1", "ACTS are numbered from 0 as they come, 5 at most");
        HullRegister x = new HullRegister();
        for (int i = 0; i < 5; i++) {
            Check.due("act " + i, Check.enact(x, "" + (i + 3), 500 - i), i);
        }
        Check.due("a sixth act", Check.enact(x, "9", 0), FULL);
        Check.due("many(0)", x.many(0), 5);
        for (int i = 0; i < 5; i++) {
            Check.due("tons by act " + i, x.tons(i, 1, 1, 1, 0), i + 3);
        }
        Check.due("tons by act 5", x.tons(5, 1, 1, 1, 0), NOTHING);
    }

    private static void daysOfActs() {
        Check.sentence("terms 1", "each from a DAY on (0 to 999)");
        HullRegister x = new HullRegister();
        Check.due("an act from day 0", Check.enact(x, "l", 0), 0);
        Check.due("an act from day 999", Check.enact(x, "b", 999), 1);
        Check.due("inForce(0)", x.inForce(0), 0);
        Check.due("inForce(998)", x.inForce(998), 0);
        Check.due("inForce(999)", x.inForce(999), 1);
        Check.due("an act from day 1000", Check.enact(x, "d", 1000), NUMBER);
        Check.due("an act from day -1", Check.enact(x, "d", -1), NUMBER);
    }

    private static void fortyLettersAtMost() {
        Check.sentence("terms 1", "TEXT is a row of at most 40 letters (bytes, as they were fed)");
        HullRegister x = new HullRegister();
        Check.due("act of 40 letters", Check.enact(x, padded("l", 38) + "b+", 0), 0);
        Check.due("the 40th letter counts", x.tons(0, 30, 4, 1, 0), 34);
        Check.due("act without the 40th letter", Check.enact(x, padded("l", 38) + "b", 0), KIND);
        Check.due("a short act behind a long one", Check.enact(x, "d", 0), 1);
        Check.due("it has its own letters alone", x.tons(1, 1, 1, 9, 0), 9);
        Check.due("the long one has its own still", x.tons(0, 30, 4, 1, 0), 34);
        Check.feed(x, padded("", 40));
        Check.due("feed of a 41st letter", x.feed('l'), FULL);
        Check.due("scrap()", x.scrap(), 40);
        for (int letter : new int[] {1, 127, 128, 255}) {
            Check.due("byte " + letter + " is a letter", x.feed(letter), 1);
            Check.due("scrap()", x.scrap(), 1);
        }
    }

    private static void readFromTheLeft() {
        Check.sentence("terms 1", "read from the left");
        Check.due("tons lb-d*", Check.tonsBy("lb-d*", 9, 4, 3, 0), 15);
        Check.due("tons dbl-*", Check.tonsBy("dbl-*", 9, 4, 3, 0), -15);
        Check.isGood("*d-bl", false);
        Check.isGood("+bl", false);
    }

    private static void nothingLiesAtFirst() {
        Check.sentence("terms 1", "with a PILE of whole numbers (none at first)");
        HullRegister x = new HullRegister();
        Check.due("two are left", Check.enact(x, "lb", 0), KIND);
        Check.due("they don't lie there for +", Check.enact(x, "+", 0), KIND);
        Check.due("nor for !", Check.enact(x, "!", 0), KIND);
        Check.due("nor for b+", Check.enact(x, "b+", 0), KIND);
        Check.due("a number is left with another", Check.enact(x, "l12", 0), KIND);
        Check.due("act of a figure", Check.enact(x, "5", 0), 0);
        Check.due("it follows none of before", x.tons(0, 1, 1, 1, 0), 5);
        Check.due("tons again", x.tons(0, 1, 1, 1, 0), 5);
        Check.due("act of 4 figures behind one", Check.enact(x, "1234", 0), 1);
        Check.due("tons of it", x.tons(1, 1, 1, 1, 0), 1234);
        Check.due("tons of the first", x.tons(0, 1, 1, 1, 0), 5);
    }

    private static void sizesArePushed() {
        Check.sentence("terms 1", "l, b, d, r push LENGTH, BREADTH, DEPTH, ROOMS of what is measured");
        int[][] sizes = {{1, 99, 50, 999}, {99, 50, 1, 0}, {50, 1, 99, 500}};
        for (int[] n : sizes) {
            for (int i = 0; i < 4; i++) {
                String text = "" + "lbdr".charAt(i);
                Check.due("tons " + text, Check.tonsBy(text, n[0], n[1], n[2], n[3]), n[i]);
            }
        }
        Check.due("tons ll*", Check.tonsBy("ll*", 99, 1, 1, 0), 9801);
    }

    private static void aFigureIsPushed() {
        Check.sentence("terms 1", "a figure (0 to 9) pushes its number");
        for (int figure = 0; figure <= 9; figure++) {
            Check.due("tons of a figure", Check.tonsBy("" + figure, 50, 60, 70, 80), figure);
            Check.due("tons of a figure behind l", Check.tonsBy("l" + figure + "-", 50, 60, 70, 80), 50 - figure);
        }
        Check.isGood("" + (char) ('0' - 1), false);
        Check.isGood("" + (char) ('9' + 1), false);
    }

    private static void figuresMakeOneNumber() {
        Check.sentence("terms 1",
                "one that follows another figure makes the number on top ten times as much and it more");
        Check.due("tons 10", Check.tonsBy("10", 1, 1, 1, 0), 10);
        Check.due("tons 07", Check.tonsBy("07", 1, 1, 1, 0), 7);
        Check.due("tons 987", Check.tonsBy("987", 1, 1, 1, 0), 987);
        Check.due("tons 9999", Check.tonsBy("9999", 1, 1, 1, 0), 9999);
        Check.due("tons 0009", Check.tonsBy("0009", 1, 1, 1, 0), 9);
        Check.due("tons 0000", Check.tonsBy("0000", 1, 1, 1, 0), 0);
        Check.due("one that follows a blank doesn't", Check.tonsBy("1 2-", 1, 1, 1, 0), -1);
        Check.due("nor one that follows l", Check.tonsBy("1l2+-", 5, 1, 1, 0), -6);
        Check.due("nor one that follows +", Check.tonsBy("1 2+3-", 1, 1, 1, 0), 0);
        Check.due("nor one that follows !", Check.tonsBy("1!2-", 1, 1, 1, 0), -1);
        Check.isGood("1!2", false);
        Check.isGood("1 2", false);
    }

    private static void aBlankDoesNothing() {
        Check.sentence("terms 1", "a blank (32) does nothing");
        Check.due("blanks all about", Check.tonsBy("  l  b  -  ", 9, 4, 1, 0), 5);
        Check.due("a blank behind a number", Check.tonsBy("12 ", 1, 1, 1, 0), 12);
        Check.due("a blank ahead of !", Check.tonsBy("0 5- !", 1, 1, 1, 0), 0);
        Check.isGood(padded("", 1), false);
        Check.isGood(padded("", 40), false);
        Check.isGood("l" + (char) 31, false);
        Check.isGood("l" + (char) 160, false);
        Check.isGood("l\t", false);
    }

    private static void twoOnTopAreTaken() {
        Check.sentence("terms 1", "+ - * take the two on top (the lower one first) and push what comes");
        Check.due("tons lb+", Check.tonsBy("lb+", 7, 3, 1, 0), 10);
        Check.due("tons lb-", Check.tonsBy("lb-", 7, 3, 1, 0), 4);
        Check.due("tons bl-", Check.tonsBy("bl-", 7, 3, 1, 0), -4);
        Check.due("tons lb*", Check.tonsBy("lb*", 7, 3, 1, 0), 21);
        Check.due("the lowest of three stays", Check.tonsBy("lbd+-", 50, 7, 3, 0), 40);
        Check.due("and is taken next", Check.tonsBy("lbd-*", 50, 7, 3, 0), 200);
        Check.due("what comes is taken anew", Check.tonsBy("lbdr*--", 9, 5, 3, 2), 10);
    }

    private static void quotientsHaveNoRest() {
        Check.sentence("terms 1", "/ the same, the quotient with the rest away");
        Check.due("tons 6 2/", Check.tonsBy("6 2/", 1, 1, 1, 0), 3);
        Check.due("tons 7 2/", Check.tonsBy("7 2/", 1, 1, 1, 0), 3);
        Check.due("tons 1 2/", Check.tonsBy("1 2/", 1, 1, 1, 0), 0);
        Check.due("tons 2 2/", Check.tonsBy("2 2/", 1, 1, 1, 0), 1);
        Check.due("tons 9999 1/", Check.tonsBy("9999 1/", 1, 1, 1, 0), 9999);
        Check.due("-7 by 2", Check.tonsBy("0 7-2/", 1, 1, 1, 0), -3);
        Check.due("7 by -2", Check.tonsBy("7 0 2-/", 1, 1, 1, 0), -3);
        Check.due("-7 by -2", Check.tonsBy("0 7-0 2-/", 1, 1, 1, 0), 3);
        Check.due("-1 by 2", Check.tonsBy("0 1-2/", 1, 1, 1, 0), 0);
        Check.due("-999999 by -1", Check.tonsBy("0 9999-9999*0 1-/", 1, 1, 1, 0), 999999);
        Check.due("the lowest of three stays", Check.tonsBy("5 9 2/-", 1, 1, 1, 0), 1);
    }

    private static void belowZeroBecomesZero() {
        Check.sentence("terms 1", "! makes the one on top 0 if it is below 0");
        Check.due("! of -1", Check.tonsBy("0 1-!", 1, 1, 1, 0), 0);
        Check.due("! of -999999", Check.tonsBy("0 9999-9999*!", 1, 1, 1, 0), 0);
        Check.due("! of 0", Check.tonsBy("0!", 1, 1, 1, 0), 0);
        Check.due("! of 1", Check.tonsBy("1!", 1, 1, 1, 0), 1);
        Check.due("! of 999999", Check.tonsBy("9999 9999*!", 1, 1, 1, 0), 999999);
        Check.due("the one below the top stays", Check.tonsBy("0 5-3!+", 1, 1, 1, 0), -2);
        Check.due("the one on top alone", Check.tonsBy("0 5-0 3-!+", 1, 1, 1, 0), -5);
    }

    /** Each of the 255 bytes where a push, a taking of two, and a taking of one or none would be good. */
    private static void noOtherLetter() {
        Check.sentence("terms 1", "A TEXT is GOOD if no letter is another one");
        for (char letter = 1; letter <= 255; letter++) {
            Check.isGood("" + letter, "lbdr0123456789".indexOf(letter) >= 0);
            Check.isGood("lb" + letter, "+-*/".indexOf(letter) >= 0);
            Check.isGood("lb+" + letter, " !".indexOf(letter) >= 0);
            Check.isGood(letter + "l", letter == ' ');
        }
    }

    private static void noneTakesMoreThanLieThere() {
        Check.sentence("terms 1", "none takes more than lie there");
        for (String sign : new String[] {"+", "-", "*", "/"}) {
            Check.isGood(sign, false);
            Check.isGood("l" + sign, false);
            Check.isGood("l" + sign + "b", false);
            Check.isGood("lb" + sign, true);
            Check.isGood("lb" + sign + sign, false);
            Check.isGood("lb" + sign + sign + "d", false);
            Check.isGood("lbd" + sign + sign, true);
            Check.isGood("12" + sign, false);
        }
        Check.isGood("!", false);
        Check.isGood("!l", false);
        Check.isGood(" !l", false);
        Check.isGood("l!", true);
        Check.isGood("l!!", true);
        Check.isGood("llllllllllllllllllll+++++++++++++++++++!", true);
        Check.isGood("llllllllllllllllllll++++++++++++++++++++", false);
    }

    private static void fourFiguresAtMost() {
        Check.sentence("terms 1", "no number has more than 4 figures");
        for (String number : new String[] {"1", "12", "123", "1234", "0000", "9999"}) {
            Check.isGood(number, true);
        }
        for (String number : new String[] {"12345", "00001", "00000", "99999", "123456", "12345678"}) {
            Check.isGood(number, false);
            Check.isGood("l" + number + "+", false);
            Check.isGood(number + "l+", false);
            Check.isGood(number + " 0*", false);
        }
        Check.isGood("1234 5678+", true);
        Check.isGood("1234l5678++", true);
        Check.isGood("1".repeat(40), false);
    }

    private static void justOneIsLeft() {
        Check.sentence("terms 1", "and just one is left");
        for (String text : new String[] {"", " ", "lb", "l b", "1 2", "lbd+", "lbd", "l1", "1l", "l".repeat(40),
            "1 ".repeat(20)}) {
            Check.isGood(text, false);
        }
        for (String text : new String[] {"l", "1", "lb+", "lbd++"}) {
            Check.isGood(text, true);
        }
    }

    private static void atMost() {
        Check.sentence("terms 1", "What is pushed is 999999 at most");
        Check.due("999999 by a sum", Check.tonsBy("1000 999*999+", 1, 1, 1, 0), 999999);
        Check.due("1000000 by a sum", Check.tonsBy("1000 999*1000+", 1, 1, 1, 0), 999999);
        Check.due("999998 by a sum", Check.tonsBy("1000 999*998+", 1, 1, 1, 0), 999998);
        Check.due("999999 by a product", Check.tonsBy("1001 999*", 1, 1, 1, 0), 999999);
        Check.due("1000000 by a product", Check.tonsBy("1000 1000*", 1, 1, 1, 0), 999999);
        Check.due("1000000 by a difference", Check.tonsBy("9999 9999*0 1--", 1, 1, 1, 0), 999999);
        Check.due("each that is pushed, not the last alone", Check.tonsBy("1000 1000*1-", 1, 1, 1, 0), 999998);
        Check.due("a product beyond an int", Check.tonsBy("1000 1000*1000 1000**", 1, 1, 1, 0), 999999);
        Check.due("a product of two below 0", Check.tonsBy("0 9999-9999*0 9999-9999**", 1, 1, 1, 0), 999999);
    }

    private static void atLeast() {
        Check.sentence("terms 1", "and -999999 at least: what would be beyond is that");
        Check.due("-999999 by a difference", Check.tonsBy("0 999-1000 999*-", 1, 1, 1, 0), -999999);
        Check.due("-1000000 by a difference", Check.tonsBy("0 1000-1000 999*-", 1, 1, 1, 0), -999999);
        Check.due("-999998 by a difference", Check.tonsBy("0 998-1000 999*-", 1, 1, 1, 0), -999998);
        Check.due("-999999 by a product", Check.tonsBy("0 999-1001*", 1, 1, 1, 0), -999999);
        Check.due("-1000000 by a product", Check.tonsBy("0 1000-1000*", 1, 1, 1, 0), -999999);
        Check.due("-1000000 by a sum", Check.tonsBy("0 9999-9999*0 1-+", 1, 1, 1, 0), -999999);
        Check.due("each that is pushed, not the last alone", Check.tonsBy("0 1000-1000*1+", 1, 1, 1, 0), -999998);
        Check.due("a product beyond an int", Check.tonsBy("0 1000-1000*1000 1000**", 1, 1, 1, 0), -999999);
    }

    private static void quotientByZero() {
        Check.sentence("terms 1", "a quotient by 0 is 0");
        Check.due("9 by 0", Check.tonsBy("9 0/", 1, 1, 1, 0), 0);
        Check.due("0 by 0", Check.tonsBy("0 0/", 1, 1, 1, 0), 0);
        Check.due("-9 by 0", Check.tonsBy("0 9-0/", 1, 1, 1, 0), 0);
        Check.due("999999 by 0", Check.tonsBy("9999 9999*0/", 1, 1, 1, 0), 0);
        Check.due("by no rooms", Check.tonsBy("lr/", 9, 1, 1, 0), 0);
        Check.due("by a difference that is 0", Check.tonsBy("llb-/", 9, 9, 1, 0), 0);
        Check.due("and it is pushed", Check.tonsBy("5 9 0/-", 1, 1, 1, 0), 5);
        Check.isGood("l0/", true);
    }

    private static void theGreatestDayThatHasCome() {
        Check.sentence("terms 1", "of those from that DAY or earlier that with the greatest DAY");
        HullRegister x = new HullRegister();
        Check.enact(x, "l", 500);
        Check.enact(x, "b", 100);
        Check.enact(x, "d", 101);
        int[][] due = {{0, NONE}, {99, NONE}, {100, 1}, {101, 2}, {102, 2}, {499, 2}, {500, 0}, {501, 0}, {999, 0}};
        for (int[] pair : due) {
            Check.due("inForce(" + pair[0] + ")", x.inForce(pair[0]), pair[1]);
        }
        x.hull(7, 8, 9, 0);
        for (int[] pair : due) {
            Check.due("measure(0, " + pair[0] + ")", x.measure(0, pair[0]), pair[1] == NONE ? NONE : 1);
            if (pair[1] != NONE) {
                Check.due("of(0, 6)", x.of(0, 6), pair[1]);
            }
        }
    }

    private static void theGreatestNumberOfLikeOnes() {
        Check.sentence("terms 1", "of like ones the greatest number");
        HullRegister x = new HullRegister();
        int[] days = {50, 0, 50, 0, 50};
        int[] onDay0 = {NONE, 1, 1, 3, 3};
        int[] onDay50 = {0, 0, 2, 2, 4};
        for (int i = 0; i < 5; i++) {
            Check.enact(x, "l", days[i]);
            Check.due("inForce(0) of " + (i + 1), x.inForce(0), onDay0[i]);
            Check.due("inForce(50) of " + (i + 1), x.inForce(50), onDay50[i]);
            Check.due("inForce(999) of " + (i + 1), x.inForce(999), onDay50[i]);
        }
    }

    private static void inForceOfEveryDay() {
        Check.sentence("promise 5", "The ACT IN FORCE on a DAY.");
        int[] days = {400, 0, 999, 200, 400};
        // An object is used for 512 calls at most.
        for (int from = 0; from < 1000; from += 250) {
            HullRegister x = new HullRegister();
            for (int i = 0; i < 5; i++) {
                Check.due("act " + i, Check.enact(x, "l", days[i]), i);
            }
            for (int day = from; day < from + 250; day++) {
                int due = day < 200 ? 1 : day < 400 ? 3 : day < 999 ? 4 : 2;
                Check.due("inForce(" + day + ")", x.inForce(day), due);
            }
        }
    }

    private static void noDayOfInForce() {
        Check.sentence("promise 5", "NUMBER: there is no such DAY");
        HullRegister x = new HullRegister();
        for (int acts = 0; acts < 2; acts++) {
            for (int day : NO_DAYS) {
                Check.due("inForce(" + day + ") of " + acts, x.inForce(day), NUMBER);
            }
            Check.enact(x, "l", 0);
        }
    }

    private static void noneInForce() {
        Check.sentence("promise 5", "NONE.");
        HullRegister x = new HullRegister();
        Check.due("inForce(0) without acts", x.inForce(0), NONE);
        Check.due("inForce(999) without acts", x.inForce(999), NONE);
        Check.enact(x, "l", 999);
        Check.due("inForce(998) ahead of the act", x.inForce(998), NONE);
        Check.due("inForce(999)", x.inForce(999), 0);
    }

    private static void lettersComeBehind() {
        Check.sentence("promise 2", "Up to four letters come behind those that are fed");
        HullRegister x = new HullRegister();
        x.feed(Check.packed("l", 0));
        x.feed(Check.packed("b-d*", 0));
        x.feed(Check.packed("r+", 0));
        Check.due("many(8)", x.many(8), 7);
        Check.due("act(0)", x.act(0), 0);
        Check.due("tons lb-d*r+", x.tons(0, 9, 4, 3, 100), 115);
    }

    /** Every way in which the four bytes are 0 or not, and bytes whose highest bit is set. */
    private static void bytesUpToTheFirstZero() {
        Check.sentence("promise 2", "the bytes of v, the lowest one first, up to the first one that is 0");
        for (int some = 0; some < 16; some++) {
            for (int letter : new int[] {1, 'l', 128, 255}) {
                int v = 0;
                for (int i = 0; i < 4; i++) {
                    v |= (some >> i & 1) == 1 ? letter << 8 * i : 0;
                }
                Check.due("feed(" + v + ")", new HullRegister().feed(v), Integer.numberOfTrailingZeros(~some));
            }
        }
        Check.due("feed of the least int", new HullRegister().feed(Integer.MIN_VALUE), 0);
        Check.due("feed of the greatest int", new HullRegister().feed(Integer.MAX_VALUE), 4);
        Check.due("feed(-1)", new HullRegister().feed(-1), 4);
        Check.due("feed(-256)", new HullRegister().feed(-256), 0);
        HullRegister x = new HullRegister();
        Check.due("feed of lb-, then 0", x.feed('l' | 'b' << 8 | '-' << 16), 3);
        Check.due("act(0)", x.act(0), 0);
        Check.due("the lowest byte is first", x.tons(0, 9, 4, 1, 0), 5);
        Check.due("feed of d, 0, b, l", x.feed('d' | 'b' << 16 | 'l' << 24), 1);
        Check.due("act(0)", x.act(0), 1);
        Check.due("what is behind a 0 doesn't come", x.tons(1, 9, 4, 1, 0), 1);
    }

    private static void howManyAreFed() {
        Check.sentence("promise 2", "how many there are.");
        HullRegister x = new HullRegister();
        Check.due("feed(0) when nothing is fed", x.feed(0), 0);
        Check.due("feed of one", x.feed('l'), 1);
        Check.due("feed of two more", x.feed('l' | 'b' << 8), 3);
        Check.due("feed(0)", x.feed(0), 3);
        Check.due("feed of four more", x.feed(-1), 7);
        Check.due("many(8)", x.many(8), 7);
        x.scrap();
        Check.due("feed of one after scrap", x.feed('l'), 1);
    }

    private static void moreThanForty() {
        Check.sentence("promise 2", "FULL: there would be more than 40.");
        for (int fed = 36; fed <= 40; fed++) {
            for (int more = 0; more <= 4; more++) {
                HullRegister x = new HullRegister();
                Check.feed(x, padded("l", fed));
                boolean fits = fed + more <= 40;
                String call = "feed of " + more + " behind " + fed;
                Check.due(call, x.feed(Check.packed(padded("", more), 0)), fits ? fed + more : FULL);
                Check.due(call + ", many(8)", x.many(8), fits ? fed + more : fed);
            }
        }
        HullRegister x = new HullRegister();
        Check.feed(x, padded("l", 39));
        Check.due("feed of two behind 39", x.feed(Check.packed("b+", 0)), FULL);
        Check.due("none of the two has come", x.act(0), 0);
        Check.due("tons", x.tons(0, 9, 4, 1, 0), 9);
    }

    private static void nothingIsFedAnyMore() {
        Check.sentence("promise 3", "Nothing is fed any more: how many letters were.");
        HullRegister x = new HullRegister();
        Check.due("scrap() when nothing is fed", x.scrap(), 0);
        for (int letters : new int[] {1, 4, 39, 40}) {
            Check.feed(x, "l".repeat(letters));
            Check.due("scrap() of " + letters, x.scrap(), letters);
            Check.due("many(8)", x.many(8), 0);
            Check.due("scrap() again", x.scrap(), 0);
        }
        Check.due("act of nothing", x.act(0), KIND);
        Check.due("the letters are gone", Check.enact(x, "b", 0), 0);
        Check.due("tons", x.tons(0, 9, 4, 1, 0), 4);
    }

    private static void whatIsFedBecomesAnAct() {
        Check.sentence("promise 4", "What is fed is an ACT from a DAY on (nothing is fed then): its number.");
        HullRegister x = new HullRegister();
        Check.feed(x, "lb+");
        Check.due("act(7)", x.act(7), 0);
        Check.due("nothing is fed then", x.many(8), 0);
        Check.due("scrap()", x.scrap(), 0);
        Check.due("act of nothing", x.act(7), KIND);
        Check.feed(x, "d");
        Check.due("another act", x.act(7), 1);
        Check.feed(x, "-1xx");
        x.scrap();
        Check.due("tons by the first", x.tons(0, 9, 4, 2, 0), 13);
        Check.due("tons by the other", x.tons(1, 9, 4, 2, 0), 2);
    }

    private static void noDayOfAct() {
        Check.sentence("promise 4", "NUMBER: there is no such DAY");
        HullRegister x = new HullRegister();
        Check.feed(x, "l");
        for (int day : NO_DAYS) {
            Check.due("act(" + day + ")", x.act(day), NUMBER);
            Check.due("what is fed stays", x.many(8), 1);
            Check.due("many(0)", x.many(0), 0);
        }
    }

    private static void fullOfActs() {
        Check.sentence("promise 4", "FULL");
        HullRegister x = new HullRegister();
        for (int i = 0; i < 5; i++) {
            Check.due("act " + i, Check.enact(x, "l", 9), i);
        }
        Check.feed(x, "b");
        Check.due("act(9) when full", x.act(9), FULL);
        Check.due("what is fed stays", x.many(8), 1);
        Check.due("many(0)", x.many(0), 5);
        Check.due("inForce(9)", x.inForce(9), 4);
        Check.due("tons by the last", x.tons(4, 9, 4, 1, 0), 9);
    }

    private static void notGoodStays() {
        Check.sentence("promise 4", "KIND: it isn't GOOD (what is fed stays)");
        HullRegister x = new HullRegister();
        Check.due("act of nothing", x.act(0), KIND);
        Check.feed(x, "lb");
        Check.due("act of two", x.act(0), KIND);
        Check.due("what is fed stays", x.many(8), 2);
        Check.feed(x, "-");
        Check.due("what comes behind makes it good", x.act(0), 0);
        Check.due("tons", x.tons(0, 9, 4, 1, 0), 5);
        Check.feed(x, "x");
        Check.due("act of another letter", x.act(0), KIND);
        Check.due("scrap()", x.scrap(), 1);
        Check.due("many(0)", x.many(0), 1);
    }

    private static void tonsOfToldNumbers() {
        Check.sentence("promise 6", "TONS by an ACT of told numbers.");
        HullRegister x = new HullRegister();
        Check.enact(x, "lbdr+++", 0);
        Check.enact(x, "0lb*d*-r-", 0);
        Check.due("tons of the least", x.tons(0, 1, 1, 1, 0), 3);
        Check.due("tons of the greatest", x.tons(0, 99, 99, 99, 999), 1296);
        Check.due("tons below 0 of the least", x.tons(1, 1, 1, 1, 0), -1);
        Check.due("tons below 0 of the greatest", x.tons(1, 99, 99, 99, 999), -971298);
    }

    private static void nothingOfTons() {
        Check.sentence("promise 6",
                "NOTHING: there is no such ACT, length, breadth or depth isn't 1 to 99, or rooms not 0 to 999.");
        HullRegister x = new HullRegister();
        Check.due("tons without acts", x.tons(0, 1, 1, 1, 0), NOTHING);
        Check.enact(x, "7", 0);
        Check.enact(x, "8", 0);
        for (int act : new int[] {-1, 2, 5, 1 << 29, Integer.MIN_VALUE, Integer.MAX_VALUE}) {
            Check.due("tons by act " + act, x.tons(act, 1, 1, 1, 0), NOTHING);
        }
        for (int wrong : NO_MEASURES) {
            Check.due("tons, length " + wrong, x.tons(1, wrong, 1, 1, 0), NOTHING);
            Check.due("tons, breadth " + wrong, x.tons(1, 1, wrong, 1, 0), NOTHING);
            Check.due("tons, depth " + wrong, x.tons(1, 1, 1, wrong, 0), NOTHING);
        }
        for (int wrong : NO_ROOMS) {
            Check.due("tons, rooms " + wrong, x.tons(1, 1, 1, 1, wrong), NOTHING);
        }
        for (int right : new int[] {1, 99}) {
            Check.due("tons, length " + right, x.tons(1, right, 1, 1, 0), 8);
            Check.due("tons, breadth " + right, x.tons(1, 1, right, 1, 0), 8);
            Check.due("tons, depth " + right, x.tons(1, 1, 1, right, 0), 8);
        }
        Check.due("tons, rooms 999", x.tons(1, 1, 1, 1, 999), 8);
    }

    private static void whatOfShape() {
        Check.sentence("promise 7", "THE SHAPE: what = 0 LENGTH, 1 BREADTH, 2 DEPTH, 3 its TONS.");
        HullRegister x = new HullRegister();
        Check.enact(x, "l3*b2*+d+", 0);
        int[] due = {1, 2, 3, 10};
        for (int what = 0; what <= 3; what++) {
            Check.due("shape(0, 6, " + what + ")", x.shape(0, 6, what), due[what]);
        }
    }

    private static void nothingOfShape() {
        Check.sentence("promise 7", "NOTHING: there is no such ACT, cargo isn't 1 to 1728, or another what.");
        HullRegister x = new HullRegister();
        Check.due("shape without acts", x.shape(0, 1, 0), NOTHING);
        Check.enact(x, "7", 0);
        Check.enact(x, "8", 0);
        for (int act : new int[] {-1, 2, 5, 1 << 29, Integer.MIN_VALUE, Integer.MAX_VALUE}) {
            Check.due("shape by act " + act, x.shape(act, 1, 3), NOTHING);
        }
        for (int cargo : new int[] {0, -1, 1729, -1728, Integer.MIN_VALUE, Integer.MAX_VALUE}) {
            Check.due("shape for " + cargo, x.shape(1, cargo, 3), NOTHING);
        }
        for (int what : new int[] {-1, 4, 5, Integer.MIN_VALUE, Integer.MAX_VALUE}) {
            Check.due("shape, what " + what, x.shape(1, 1, what), NOTHING);
        }
        Check.due("shape for 1", x.shape(1, 1, 3), 8);
        Check.due("shape for 1728", x.shape(1, 1728, 3), 8);
    }
}
