import java.io.IOException;

/** Terms 3 and promises 12 to 19 at their edges: a test for each sentence that names one. */
public final class EntriesEdgesTest {
    private static final int NUMBER = HullRegister.NUMBER;
    private static final int FULL = HullRegister.FULL;
    private static final int TWICE = HullRegister.TWICE;
    private static final int NONE = HullRegister.NONE;
    private static final int KIND = HullRegister.KIND;
    private static final int FORGED = 5;
    private static final int VOID = 6;
    private static final int RANK = 7;
    /** Where there are two hulls; some of them times 8 would be a hull's place by wrap-around. */
    private static final int[] NO_HULLS = {-1, 2, 5, 1 << 29, 1 << 30, -(1 << 29), Integer.MIN_VALUE,
        Integer.MAX_VALUE};
    private static final int[] NO_PERSONS = {-1, 8, 9, -8, 16, Integer.MIN_VALUE, Integer.MAX_VALUE};
    private static final int[] NO_AMOUNTS = {0, 65, -1, -64, 64 + 256, Integer.MIN_VALUE, Integer.MAX_VALUE};

    public static void main(String[] args) throws IOException {
        theTermsOfEntries();
        howItStands();
        ranksAndManagers();
        sellingAndPledging();
        redeeming();
        forging();
        tellingOfEntries();
        Check.endOfSentences(args);
    }

    private static void theTermsOfEntries() {
        eightPersons();
        sixtyEntriesAtMost();
        eachOfAHull();
        partsOfASale();
        partsOfAPledge();
        redeemByNumber();
        oneMayBeForged();
    }

    private static void howItStands() {
        personZeroHasAll();
        goneThroughInOrder();
        freeParts();
        aSaleBringsParts();
        aPledgeStands();
        aRedeemEndsAPledge();
        othersAreVoid();
    }

    private static void ranksAndManagers() {
        rankOfAPledge();
        whoHasTheMost();
        theLeastOfSeveral();
    }

    private static void sellingAndPledging() {
        sellAnswersItsNumber();
        sellOfWrongNumbers();
        sellWhenFull();
        pledgeLikewise();
    }

    private static void redeeming() {
        redeemAnswersItsNumber();
        redeemOfWrongNumbers();
        redeemOfNoPledge();
        redeemWhenFull();
    }

    private static void forging() {
        forgeTakesAllBack();
        forgeOfWrongNumbers();
        forgeTwice();
    }

    private static void tellingOfEntries() {
        kindOfEntry();
        numbersOfEntry();
        forgedOrNot();
        voidOrNot();
        rankOrNone();
        pledgeOrNone();
        entryOfWrongNumbers();
        partsOfPersons();
        partsOfWrongNumbers();
        managerOfEachHull();
        managerOfWrongNumbers();
        heldInPledge();
        heldOfWrongNumbers();
    }

    private static HullRegister withHulls(int n) {
        HullRegister x = new HullRegister();
        for (int i = 0; i < n; i++) {
            x.hull(9, 8, 7, 6);
        }
        return x;
    }

    private static void hasParts(HullRegister x, int hull, int person, int all, int free) {
        String whose = "(" + hull + ", " + person + ", ";
        Check.due("parts" + whose + "false)", x.parts(hull, person, false), all);
        Check.due("parts" + whose + "true)", x.parts(hull, person, true), free);
    }

    private static void isEntry(HullRegister x, int entry, int... told) {
        for (int what = 0; what < told.length; what++) {
            Check.due("entry(" + entry + ", " + what + ")", x.entry(entry, what), told[what]);
        }
    }

    /** Whether each entry from 0 on is VOID. */
    private static void voids(HullRegister x, int... told) {
        int sum = 0;
        for (int i = 0; i < told.length; i++) {
            Check.due("entry(" + i + ", 6)", x.entry(i, VOID), told[i]);
            sum += told[i];
        }
        Check.due("many(4)", x.many(4), sum);
    }

    /** The RANK of each entry from 0 on. */
    private static void ranks(HullRegister x, int... told) {
        int standing = 0;
        for (int i = 0; i < told.length; i++) {
            Check.due("entry(" + i + ", 7)", x.entry(i, RANK), told[i]);
            standing += told[i] == NONE ? 0 : 1;
        }
        Check.due("many(5)", x.many(5), standing);
    }

    private static void eightPersons() {
        Check.sentence("terms 3", "PERSONS are 0 to 7.");
        HullRegister x = withHulls(1);
        Check.due("sell from 0 to 7", x.sell(0, 0, 7, 10), 0);
        Check.due("pledge of 7 to 0", x.pledge(0, 7, 0, 4), 1);
        hasParts(x, 0, 7, 10, 6);
        Check.due("held(0, 0)", x.held(0, 0), 4);
        Check.due("sell to 8", x.sell(0, 0, 8, 1), NUMBER);
        Check.due("sell from -1", x.sell(0, -1, 0, 1), NUMBER);
        Check.due("parts of 8", x.parts(0, 8, false), NUMBER);
        Check.due("parts of -1", x.parts(0, -1, false), NUMBER);
        Check.due("held by 8", x.held(0, 8), NUMBER);
        Check.due("held by -1", x.held(0, -1), NUMBER);
    }

    private static void sixtyEntriesAtMost() {
        Check.sentence("terms 3", "ENTRIES are numbered from 0 as they come, 60 at most");
        HullRegister x = withHulls(1);
        for (int i = 0; i < 60; i++) {
            int answer = i % 3 == 0 ? x.pledge(0, 0, 1, 1) : i % 3 == 1 ? x.redeem(i - 1) : x.sell(0, 0, 2, 1);
            Check.due("entry " + i, answer, i);
        }
        Check.due("many(2)", x.many(2), 60);
        Check.due("a 61st, a sale", x.sell(0, 0, 1, 1), FULL);
        Check.due("a 61st, a pledge", x.pledge(0, 0, 1, 1), FULL);
        Check.due("a 61st, a redeem", x.redeem(57), FULL);
        Check.due("many(2)", x.many(2), 60);
        isEntry(x, 59, 0, 0, 0, 2, 1, 0, 0, NONE, NONE);
        isEntry(x, 58, 2, 0, 0, 1, 1, 0, 0, NONE, 57);
        Check.due("entry(60, 0)", x.entry(60, 0), NUMBER);
        hasParts(x, 0, 2, 20, 20);
    }

    private static void eachOfAHull() {
        Check.sentence("terms 3", "each of a HULL");
        HullRegister x = withHulls(5);
        for (int hull = 0; hull < 5; hull++) {
            x.sell(hull, 0, 7, hull + 1);
            x.pledge(hull, 7, 0, hull + 1);
        }
        Check.due("redeem of hull 2", x.redeem(5), 10);
        for (int hull = 0; hull < 5; hull++) {
            hasParts(x, hull, 0, 63 - hull, 63 - hull);
            hasParts(x, hull, 7, hull + 1, hull == 2 ? 3 : 0);
            Check.due("entry(" + 2 * hull + ", 1)", x.entry(2 * hull, 1), hull);
            Check.due("held(" + hull + ", 0)", x.held(hull, 0), hull == 2 ? 0 : hull + 1);
        }
        Check.due("the redeem is of hull 2", x.entry(10, 1), 2);
    }

    private static void partsOfASale() {
        Check.sentence("terms 3", "SALE of n PARTS (1 to 64) from a PERSON to another one");
        HullRegister x = withHulls(1);
        Check.due("sell 64", x.sell(0, 0, 1, 64), 0);
        Check.due("sell 1", x.sell(0, 1, 2, 1), 1);
        Check.due("sell 0", x.sell(0, 1, 2, 0), NUMBER);
        Check.due("sell 65", x.sell(0, 1, 2, 65), NUMBER);
        Check.due("sell to itself", x.sell(0, 1, 1, 1), NUMBER);
        hasParts(x, 0, 0, 0, 0);
        hasParts(x, 0, 1, 63, 63);
        hasParts(x, 0, 2, 1, 1);
    }

    private static void partsOfAPledge() {
        Check.sentence("terms 3", "or PLEDGE of n PARTS of a PERSON to another one");
        HullRegister x = withHulls(2);
        Check.due("pledge 64", x.pledge(0, 0, 1, 64), 0);
        Check.due("pledge 1", x.pledge(1, 0, 1, 1), 1);
        Check.due("pledge 0", x.pledge(1, 0, 1, 0), NUMBER);
        Check.due("pledge 65", x.pledge(1, 0, 1, 65), NUMBER);
        Check.due("pledge to itself", x.pledge(1, 0, 0, 1), NUMBER);
        hasParts(x, 0, 0, 64, 0);
        hasParts(x, 1, 0, 64, 63);
        hasParts(x, 0, 1, 0, 0);
    }

    private static void redeemByNumber() {
        Check.sentence("terms 3", "or REDEEM of a PLEDGE (by its number)");
        HullRegister x = withHulls(1);
        x.pledge(0, 0, 1, 10);
        x.pledge(0, 0, 1, 10);
        x.pledge(0, 0, 1, 10);
        Check.due("redeem(1)", x.redeem(1), 3);
        ranks(x, 0, NONE, 1, NONE);
        Check.due("redeem(0)", x.redeem(0), 4);
        ranks(x, NONE, NONE, 0, NONE, NONE);
        Check.due("redeem(2)", x.redeem(2), 5);
        ranks(x, NONE, NONE, NONE, NONE, NONE, NONE);
        hasParts(x, 0, 0, 64, 64);
    }

    private static void oneMayBeForged() {
        Check.sentence("terms 3", "one may be FORGED");
        HullRegister x = withHulls(1);
        x.sell(0, 0, 1, 10);
        x.pledge(0, 1, 2, 10);
        x.redeem(1);
        for (int i = 2; i >= 0; i--) {
            Check.due("entry(" + i + ", 5) at first", x.entry(i, FORGED), 0);
            Check.due("forge(" + i + ")", x.forge(i), 1);
            Check.due("entry(" + i + ", 5)", x.entry(i, FORGED), 1);
            Check.due("many(3)", x.many(3), 3 - i);
        }
        hasParts(x, 0, 0, 64, 64);
        voids(x, 0, 0, 0);
    }

    private static void personZeroHasAll() {
        Check.sentence("terms 3", "at first PERSON 0 has all 64 PARTS of each HULL");
        HullRegister x = withHulls(4);
        x.sell(0, 0, 1, 64);
        x.hull(1, 1, 1, 0);
        for (int hull = 1; hull < 5; hull++) {
            hasParts(x, hull, 0, 64, 64);
            for (int person = 1; person < 8; person++) {
                hasParts(x, hull, person, 0, 0);
                Check.due("held by " + person, x.held(hull, person), 0);
            }
            Check.due("manager", x.manager(hull), 0);
        }
        Check.due("sell all of the last hull", x.sell(4, 0, 7, 64), 1);
        voids(x, 0, 0);
        hasParts(x, 4, 7, 64, 64);
        hasParts(x, 3, 0, 64, 64);
    }

    private static void goneThroughInOrder() {
        Check.sentence("terms 3", "ENTRIES that aren't FORGED are gone through in their order");
        HullRegister x = withHulls(1);
        x.sell(0, 1, 2, 10);
        x.sell(0, 0, 1, 10);
        voids(x, 1, 0);
        x.sell(0, 1, 2, 10);
        voids(x, 1, 0, 0);
        hasParts(x, 0, 2, 10, 10);
        x.sell(0, 2, 3, 10);
        x.sell(0, 0, 2, 10);
        Check.due("forge(1)", x.forge(1), 1);
        voids(x, 1, 0, 1, 1, 0);
        hasParts(x, 0, 0, 54, 54);
        hasParts(x, 0, 2, 10, 10);
        hasParts(x, 0, 3, 0, 0);
        HullRegister y = withHulls(2);
        y.sell(0, 0, 1, 64);
        y.sell(1, 0, 1, 64);
        y.sell(0, 0, 2, 64);
        y.sell(1, 0, 2, 64);
        voids(y, 0, 0, 1, 1);
        y.forge(0);
        voids(y, 0, 0, 0, 1);
    }

    private static void freeParts() {
        Check.sentence("terms 3",
                "FREE PARTS of a PERSON are those that it has less those that it has in PLEDGES that STAND");
        HullRegister x = withHulls(2);
        x.pledge(0, 0, 1, 20);
        hasParts(x, 0, 0, 64, 44);
        x.pledge(0, 0, 2, 14);
        hasParts(x, 0, 0, 64, 30);
        x.pledge(0, 0, 1, 31);
        hasParts(x, 0, 0, 64, 30);
        hasParts(x, 1, 0, 64, 64);
        hasParts(x, 0, 1, 0, 0);
        x.pledge(1, 0, 1, 7);
        hasParts(x, 0, 0, 64, 30);
        hasParts(x, 1, 0, 64, 57);
        x.redeem(0);
        hasParts(x, 0, 0, 64, 50);
        x.forge(1);
        // Entry 2 stands now, as 64 less 20 were free when it came.
        hasParts(x, 0, 0, 64, 33);
        x.sell(0, 0, 1, 33);
        hasParts(x, 0, 0, 31, 0);
        hasParts(x, 0, 1, 33, 33);
    }

    private static void aSaleBringsParts() {
        Check.sentence("terms 3", "A SALE brings its PARTS if the first PERSON has so many FREE ones");
        HullRegister x = withHulls(1);
        x.pledge(0, 0, 1, 24);
        x.sell(0, 0, 2, 41);
        hasParts(x, 0, 0, 64, 40);
        hasParts(x, 0, 2, 0, 0);
        x.sell(0, 0, 2, 40);
        hasParts(x, 0, 0, 24, 0);
        hasParts(x, 0, 2, 40, 40);
        x.sell(0, 0, 2, 1);
        x.sell(0, 3, 2, 1);
        x.sell(0, 1, 2, 1);
        voids(x, 0, 1, 0, 1, 1, 1);
        HullRegister y = withHulls(1);
        y.sell(0, 0, 1, 64);
        y.sell(0, 1, 2, 64);
        y.sell(0, 0, 2, 1);
        y.sell(0, 2, 0, 64);
        voids(y, 0, 0, 1, 0);
        hasParts(y, 0, 0, 64, 64);
    }

    private static void aPledgeStands() {
        Check.sentence("terms 3", "a PLEDGE STANDS from then on if so many are FREE");
        HullRegister x = withHulls(1);
        x.sell(0, 0, 1, 1);
        x.pledge(0, 0, 2, 64);
        x.pledge(0, 0, 2, 63);
        x.pledge(0, 0, 2, 1);
        voids(x, 0, 1, 0, 1);
        ranks(x, NONE, NONE, 0, NONE);
        x.pledge(0, 1, 0, 2);
        x.pledge(0, 1, 0, 1);
        voids(x, 0, 1, 0, 1, 1, 0);
        HullRegister y = withHulls(1);
        y.pledge(0, 1, 2, 5);
        y.sell(0, 0, 1, 5);
        Check.due("it doesn't stand when parts come later", y.entry(0, RANK), NONE);
        voids(y, 1, 0);
        hasParts(y, 0, 1, 5, 5);
        HullRegister z = withHulls(1);
        z.pledge(0, 0, 1, 64);
        z.pledge(0, 0, 2, 1);
        z.redeem(0);
        voids(z, 0, 1, 0);
        Check.due("nor when parts are free later", z.held(0, 2), 0);
    }

    private static void aRedeemEndsAPledge() {
        Check.sentence("terms 3", "a REDEEM ends a PLEDGE that STANDS, and isn't FORGED");
        HullRegister x = withHulls(1);
        x.pledge(0, 0, 1, 40);
        x.pledge(0, 0, 2, 25);
        x.redeem(0);
        x.redeem(0);
        x.redeem(1);
        voids(x, 0, 1, 0, 1, 1);
        hasParts(x, 0, 0, 64, 64);
        x.forge(2);
        voids(x, 0, 1, 0, 0, 1);
        x.forge(3);
        voids(x, 0, 1, 0, 0, 1);
        Check.due("the pledge stands when its redeems are forged", x.entry(0, RANK), 0);
        hasParts(x, 0, 0, 64, 24);
        HullRegister y = withHulls(1);
        y.pledge(0, 0, 1, 40);
        y.redeem(0);
        voids(y, 0, 0);
        y.forge(0);
        voids(y, 0, 1);
        y.redeem(0);
        voids(y, 0, 1, 1);
        hasParts(y, 0, 0, 64, 64);
    }

    private static void othersAreVoid() {
        Check.sentence("terms 3", "Others are VOID.");
        HullRegister x = withHulls(1);
        x.sell(0, 1, 0, 1);
        x.pledge(0, 1, 0, 1);
        x.redeem(1);
        voids(x, 1, 1, 1);
        x.sell(0, 0, 1, 1);
        x.pledge(0, 1, 0, 1);
        x.redeem(4);
        voids(x, 1, 1, 1, 0, 0, 0);
        x.forge(1);
        voids(x, 1, 0, 1, 0, 0, 0);
    }

    private static void rankOfAPledge() {
        Check.sentence("terms 3",
                "The RANK of a PLEDGE that STANDS: how many STAND of that HULL and PERSON with lesser numbers.");
        HullRegister x = withHulls(2);
        x.sell(0, 0, 3, 20);
        x.pledge(0, 0, 1, 10);
        x.pledge(0, 3, 1, 10);
        x.pledge(1, 0, 1, 10);
        x.pledge(0, 0, 2, 10);
        x.pledge(0, 0, 1, 25);
        x.pledge(0, 0, 1, 10);
        x.pledge(0, 3, 0, 10);
        ranks(x, NONE, 0, 0, 0, 1, NONE, 2, 1);
        x.redeem(1);
        ranks(x, NONE, NONE, 0, 0, 0, NONE, 1, 1, NONE);
        x.forge(4);
        // Entry 5 stands now, and leaves too few for entry 6.
        ranks(x, NONE, NONE, 0, 0, NONE, 0, NONE, 1, NONE);
        HullRegister y = withHulls(1);
        for (int i = 0; i < 60; i++) {
            y.pledge(0, 0, 1, 1);
        }
        Check.due("the rank of the 60th", y.entry(59, RANK), 59);
        y.forge(0);
        Check.due("its rank when the first is forged", y.entry(59, RANK), 58);
    }

    private static void whoHasTheMost() {
        Check.sentence("terms 3", "A MANAGER of a HULL: who has the most PARTS");
        HullRegister x = withHulls(2);
        x.sell(0, 0, 7, 33);
        Check.due("manager with 33 of 64", x.manager(0), 7);
        Check.due("manager of the other hull", x.manager(1), 0);
        x.pledge(0, 7, 1, 33);
        Check.due("pledged parts count", x.manager(0), 7);
        x.forge(0);
        Check.due("manager when the sale is forged", x.manager(0), 0);
        x.sell(1, 0, 4, 64);
        Check.due("manager with all", x.manager(1), 4);
    }

    private static void theLeastOfSeveral() {
        Check.sentence("terms 3", "of several the least PERSON");
        HullRegister x = withHulls(1);
        x.sell(0, 0, 7, 32);
        Check.due("manager of two halves", x.manager(0), 0);
        x.sell(0, 0, 6, 32);
        Check.due("manager of 6 and 7", x.manager(0), 6);
        HullRegister y = withHulls(1);
        for (int person = 7; person >= 1; person--) {
            y.sell(0, 0, person, 8);
        }
        Check.due("manager of eight with 8 each", y.manager(0), 0);
        y.sell(0, 0, 5, 1);
        y.sell(0, 0, 3, 1);
        Check.due("manager of 3 and 5 with 9 each", y.manager(0), 3);
        y.sell(0, 3, 6, 1);
        Check.due("manager of 5 and 6 with 9 each", y.manager(0), 5);
    }

    private static void sellAnswersItsNumber() {
        Check.sentence("promise 12", "A SALE: the ENTRY's number.");
        HullRegister x = withHulls(1);
        Check.due("a sale that brings its parts", x.sell(0, 0, 1, 64), 0);
        Check.due("a sale that is void", x.sell(0, 0, 1, 1), 1);
        Check.due("many(2)", x.many(2), 2);
    }

    private static void sellOfWrongNumbers() {
        Check.sentence("promise 12",
                "NUMBER: there is no such HULL, PERSON (either), they are the same, or n isn't 1 to 64");
        HullRegister x = new HullRegister();
        Check.due("sell without hulls", x.sell(0, 0, 1, 1), NUMBER);
        x = withHulls(2);
        for (int wrong : NO_HULLS) {
            Check.due("sell, hull " + wrong, x.sell(wrong, 0, 1, 1), NUMBER);
        }
        for (int wrong : NO_PERSONS) {
            Check.due("sell, person " + wrong, x.sell(1, wrong, 1, 1), NUMBER);
            Check.due("sell, other " + wrong, x.sell(1, 0, wrong, 1), NUMBER);
            Check.due("sell, both " + wrong, x.sell(1, wrong, wrong, 1), NUMBER);
        }
        for (int person = 0; person < 8; person++) {
            Check.due("sell to itself", x.sell(1, person, person, 1), NUMBER);
        }
        for (int wrong : NO_AMOUNTS) {
            Check.due("sell, n " + wrong, x.sell(1, 0, 1, wrong), NUMBER);
        }
        Check.due("many(2)", x.many(2), 0);
        hasParts(x, 1, 0, 64, 64);
        Check.due("the next one is the first", x.sell(1, 0, 1, 1), 0);
    }

    private static void sellWhenFull() {
        Check.sentence("promise 12", "FULL.");
        HullRegister x = withHulls(1);
        for (int i = 0; i < 60; i++) {
            Check.due("sale " + i, x.sell(0, 0, 1, 1), i);
        }
        Check.due("sell when full", x.sell(0, 0, 1, 1), FULL);
        hasParts(x, 0, 1, 60, 60);
        x.forge(0);
        Check.due("sell when full, one being forged", x.sell(0, 0, 1, 1), FULL);
        hasParts(x, 0, 1, 59, 59);
    }

    private static void pledgeLikewise() {
        Check.sentence("promise 13", "A PLEDGE likewise.");
        HullRegister x = new HullRegister();
        Check.due("pledge without hulls", x.pledge(0, 0, 1, 1), NUMBER);
        x = withHulls(2);
        for (int wrong : NO_HULLS) {
            Check.due("pledge, hull " + wrong, x.pledge(wrong, 0, 1, 1), NUMBER);
        }
        for (int wrong : NO_PERSONS) {
            Check.due("pledge, person " + wrong, x.pledge(1, wrong, 1, 1), NUMBER);
            Check.due("pledge, other " + wrong, x.pledge(1, 0, wrong, 1), NUMBER);
            Check.due("pledge, both " + wrong, x.pledge(1, wrong, wrong, 1), NUMBER);
        }
        for (int person = 0; person < 8; person++) {
            Check.due("pledge to itself", x.pledge(1, person, person, 1), NUMBER);
        }
        for (int wrong : NO_AMOUNTS) {
            Check.due("pledge, n " + wrong, x.pledge(1, 0, 1, wrong), NUMBER);
        }
        Check.due("many(2)", x.many(2), 0);
        for (int i = 0; i < 60; i++) {
            Check.due("pledge " + i, x.pledge(1, 0, 1, 2), i);
        }
        Check.due("pledge when full", x.pledge(1, 0, 1, 1), FULL);
        Check.due("many(5)", x.many(5), 32);
        Check.due("many(4)", x.many(4), 28);
    }

    private static void redeemAnswersItsNumber() {
        Check.sentence("promise 14", "A REDEEM of a PLEDGE: the ENTRY's number.");
        HullRegister x = withHulls(1);
        x.pledge(0, 0, 1, 64);
        x.pledge(0, 0, 1, 1);
        Check.due("redeem of one that stands", x.redeem(0), 2);
        Check.due("redeem of one that is ended", x.redeem(0), 3);
        Check.due("redeem of one that is void", x.redeem(1), 4);
        x.forge(0);
        Check.due("redeem of one that is forged", x.redeem(0), 5);
        voids(x, 0, 0, 1, 1, 0, 1);
        Check.due("many(2)", x.many(2), 6);
    }

    private static void redeemOfWrongNumbers() {
        Check.sentence("promise 14", "NUMBER: there is no such ENTRY");
        HullRegister x = withHulls(1);
        Check.due("redeem(0) without entries", x.redeem(0), NUMBER);
        x.pledge(0, 0, 1, 1);
        for (int wrong : new int[] {-1, 1, 59, 60, 477218589, Integer.MIN_VALUE, Integer.MAX_VALUE}) {
            Check.due("redeem(" + wrong + ")", x.redeem(wrong), NUMBER);
        }
        Check.due("many(2)", x.many(2), 1);
        ranks(x, 0);
    }

    private static void redeemOfNoPledge() {
        Check.sentence("promise 14", "KIND: it is no PLEDGE");
        HullRegister x = withHulls(1);
        x.sell(0, 0, 1, 1);
        x.pledge(0, 0, 1, 1);
        x.redeem(1);
        Check.due("redeem of a sale", x.redeem(0), KIND);
        Check.due("redeem of a redeem", x.redeem(2), KIND);
        x.forge(0);
        x.forge(2);
        Check.due("redeem of a forged sale", x.redeem(0), KIND);
        Check.due("redeem of a forged redeem", x.redeem(2), KIND);
        Check.due("many(2)", x.many(2), 3);
    }

    private static void redeemWhenFull() {
        Check.sentence("promise 14", "FULL.");
        HullRegister x = withHulls(1);
        for (int i = 0; i < 60; i++) {
            x.pledge(0, 0, 1, 1);
        }
        Check.due("redeem(0) when full", x.redeem(0), FULL);
        Check.due("redeem(59) when full", x.redeem(59), FULL);
        Check.due("many(5)", x.many(5), 60);
        hasParts(x, 0, 0, 64, 4);
    }

    /** What a forged entry had made possible falls, and what it had hindered stands. */
    private static void forgeTakesAllBack() {
        Check.sentence("promise 15", "An ENTRY is FORGED: 1.");
        HullRegister x = withHulls(1);
        x.sell(0, 0, 1, 60);
        x.sell(0, 1, 2, 60);
        x.pledge(0, 2, 3, 60);
        x.pledge(0, 0, 3, 5);
        x.redeem(2);
        x.pledge(0, 2, 4, 30);
        x.sell(0, 0, 5, 4);
        voids(x, 0, 0, 0, 1, 0, 0, 0);
        Check.due("manager", x.manager(0), 2);
        Check.due("forge(0)", x.forge(0), 1);
        voids(x, 0, 1, 1, 0, 1, 1, 0);
        ranks(x, NONE, NONE, NONE, 0, NONE, NONE, NONE);
        hasParts(x, 0, 0, 60, 55);
        hasParts(x, 0, 1, 0, 0);
        hasParts(x, 0, 2, 0, 0);
        hasParts(x, 0, 5, 4, 4);
        Check.due("held(0, 3)", x.held(0, 3), 5);
        Check.due("held(0, 4)", x.held(0, 4), 0);
        Check.due("manager", x.manager(0), 0);
        Check.due("many(3)", x.many(3), 1);
        Check.due("forge of a void one", x.forge(5), 1);
        voids(x, 0, 1, 1, 0, 1, 0, 0);
    }

    private static void forgeOfWrongNumbers() {
        Check.sentence("promise 15", "NUMBER: there is none such");
        HullRegister x = withHulls(1);
        Check.due("forge(0) without entries", x.forge(0), NUMBER);
        x.sell(0, 0, 1, 1);
        for (int wrong : new int[] {-1, 1, 59, 60, 477218589, Integer.MIN_VALUE, Integer.MAX_VALUE}) {
            Check.due("forge(" + wrong + ")", x.forge(wrong), NUMBER);
        }
        Check.due("many(3)", x.many(3), 0);
        Check.due("the next one isn't forged", x.entry(x.sell(0, 0, 1, 1), FORGED), 0);
    }

    private static void forgeTwice() {
        Check.sentence("promise 15", "TWICE.");
        HullRegister x = withHulls(1);
        x.sell(0, 0, 1, 10);
        x.sell(0, 1, 2, 10);
        Check.due("forge(0)", x.forge(0), 1);
        Check.due("forge(0) again", x.forge(0), TWICE);
        Check.due("forge(0) once more", x.forge(0), TWICE);
        Check.due("it is forged still", x.entry(0, FORGED), 1);
        Check.due("many(3)", x.many(3), 1);
        Check.due("forge(1), which is void", x.forge(1), 1);
        Check.due("forge(1) again", x.forge(1), TWICE);
    }

    /** A sale, a pledge, its redeem, a void sale, a void pledge, and the void redeem of that. */
    private static HullRegister withEachKind() {
        HullRegister x = withHulls(5);
        x.sell(4, 0, 7, 64);
        x.pledge(3, 0, 6, 2);
        x.redeem(1);
        x.sell(2, 5, 0, 1);
        x.pledge(1, 4, 3, 63);
        x.redeem(4);
        x.pledge(3, 0, 6, 9);
        return x;
    }

    private static void kindOfEntry() {
        Check.sentence("promise 16", "what = 0 0 SALE, 1 PLEDGE, 2 REDEEM");
        HullRegister x = withEachKind();
        int[] due = {0, 1, 2, 0, 1, 2, 1};
        for (int i = 0; i < due.length; i++) {
            Check.due("entry(" + i + ", 0)", x.entry(i, 0), due[i]);
        }
    }

    private static void numbersOfEntry() {
        Check.sentence("promise 16",
                "1 HULL (of a REDEEM that of its PLEDGE), 2 the first PERSON (likewise), 3 the other one"
                + " (likewise), 4 n (likewise)");
        HullRegister x = withEachKind();
        int[][] due = {{4, 0, 7, 64}, {3, 0, 6, 2}, {3, 0, 6, 2}, {2, 5, 0, 1}, {1, 4, 3, 63}, {1, 4, 3, 63}};
        for (int i = 0; i < due.length; i++) {
            for (int what = 1; what <= 4; what++) {
                Check.due("entry(" + i + ", " + what + ")", x.entry(i, what), due[i][what - 1]);
            }
        }
        x.forge(1);
        x.forge(2);
        for (int what = 1; what <= 4; what++) {
            Check.due("entry(2, " + what + ") when forged", x.entry(2, what), due[2][what - 1]);
        }
    }

    private static void forgedOrNot() {
        Check.sentence("promise 16", "5 1 if it is FORGED, else 0");
        HullRegister x = withEachKind();
        for (int i = 0; i < 7; i++) {
            Check.due("entry(" + i + ", 5)", x.entry(i, FORGED), 0);
        }
        x.forge(1);
        for (int i = 0; i < 7; i++) {
            Check.due("entry(" + i + ", 5) when 1 is forged", x.entry(i, FORGED), i == 1 ? 1 : 0);
        }
    }

    private static void voidOrNot() {
        Check.sentence("promise 16", "6 1 if it is VOID, else 0 (0 if FORGED)");
        HullRegister x = withEachKind();
        voids(x, 0, 0, 0, 1, 1, 1, 0);
        for (int i = 3; i <= 5; i++) {
            x.forge(i);
            Check.due("entry(" + i + ", 6) when forged", x.entry(i, VOID), 0);
        }
        voids(x, 0, 0, 0, 0, 0, 0, 0);
        x.forge(1);
        voids(x, 0, 0, 1, 0, 0, 0, 0);
    }

    private static void rankOrNone() {
        Check.sentence("promise 16", "7 the RANK of a PLEDGE that STANDS (NONE of others)");
        HullRegister x = withEachKind();
        ranks(x, NONE, NONE, NONE, NONE, NONE, NONE, 0);
        x.forge(2);
        ranks(x, NONE, 0, NONE, NONE, NONE, NONE, 1);
        x.forge(1);
        ranks(x, NONE, NONE, NONE, NONE, NONE, NONE, 0);
        x.forge(6);
        ranks(x, NONE, NONE, NONE, NONE, NONE, NONE, NONE);
    }

    private static void pledgeOrNone() {
        Check.sentence("promise 16", "8 the PLEDGE of a REDEEM (NONE of others)");
        HullRegister x = withEachKind();
        int[] due = {NONE, NONE, 1, NONE, NONE, 4, NONE};
        for (int forged = -1; forged < due.length; forged++) {
            x.forge(forged);
            for (int i = 0; i < due.length; i++) {
                Check.due("entry(" + i + ", 8)", x.entry(i, 8), due[i]);
            }
        }
    }

    private static void entryOfWrongNumbers() {
        Check.sentence("promise 16", "NUMBER: there is none such, another what.");
        HullRegister x = withHulls(1);
        Check.due("entry(0, 0) without entries", x.entry(0, 0), NUMBER);
        x.sell(0, 0, 1, 1);
        x.pledge(0, 0, 1, 1);
        for (int wrong : new int[] {-1, 2, 59, 60, 477218589, Integer.MIN_VALUE, Integer.MAX_VALUE}) {
            for (int what = 0; what <= 8; what++) {
                Check.due("entry(" + wrong + ", " + what + ")", x.entry(wrong, what), NUMBER);
            }
        }
        for (int wrong : new int[] {-1, 9, -9, 10, Integer.MIN_VALUE, Integer.MAX_VALUE}) {
            Check.due("entry(0, " + wrong + ")", x.entry(0, wrong), NUMBER);
            Check.due("entry(1, " + wrong + ")", x.entry(1, wrong), NUMBER);
        }
    }

    private static void partsOfPersons() {
        Check.sentence("promise 17", "PARTS of a HULL that a PERSON has (FREE ones: free).");
        HullRegister x = withHulls(2);
        x.sell(1, 0, 7, 20);
        x.pledge(1, 7, 0, 20);
        hasParts(x, 1, 7, 20, 0);
        hasParts(x, 1, 0, 44, 44);
        hasParts(x, 0, 7, 0, 0);
        hasParts(x, 0, 0, 64, 64);
    }

    private static void partsOfWrongNumbers() {
        Check.sentence("promise 17", "NUMBER: there is no such HULL, PERSON.");
        Check.due("parts without hulls", new HullRegister().parts(0, 0, true), NUMBER);
        HullRegister x = withHulls(2);
        for (int wrong : NO_HULLS) {
            Check.due("parts, hull " + wrong, x.parts(wrong, 0, true), NUMBER);
            Check.due("parts, hull " + wrong, x.parts(wrong, 0, false), NUMBER);
        }
        for (int wrong : NO_PERSONS) {
            Check.due("parts, person " + wrong, x.parts(0, wrong, true), NUMBER);
            Check.due("parts, person " + wrong, x.parts(1, wrong, false), NUMBER);
        }
    }

    private static void managerOfEachHull() {
        Check.sentence("promise 18", "THE MANAGER of a HULL.");
        HullRegister x = withHulls(5);
        for (int hull = 1; hull < 5; hull++) {
            x.sell(hull, 0, hull, 33);
            x.pledge(hull, hull, 7, 33);
        }
        for (int hull = 0; hull < 5; hull++) {
            Check.due("manager(" + hull + "), whose parts are pledged", x.manager(hull), hull);
        }
        x.forge(0);
        Check.due("manager(1) when the sale was forged", x.manager(1), 0);
        Check.due("manager(2) then", x.manager(2), 2);
    }

    private static void managerOfWrongNumbers() {
        Check.sentence("promise 18", "NUMBER: there is none such.");
        Check.due("manager without hulls", new HullRegister().manager(0), NUMBER);
        HullRegister x = withHulls(2);
        Check.due("manager(1)", x.manager(1), 0);
        for (int wrong : NO_HULLS) {
            Check.due("manager(" + wrong + ")", x.manager(wrong), NUMBER);
        }
    }

    private static void heldInPledge() {
        Check.sentence("promise 19", "How many PARTS are in PLEDGES that STAND to a PERSON, of a HULL.");
        HullRegister x = withHulls(2);
        x.sell(0, 0, 1, 10);
        x.pledge(0, 0, 7, 54);
        x.pledge(0, 1, 7, 10);
        x.pledge(0, 0, 7, 1);
        x.pledge(1, 0, 7, 3);
        Check.due("held of all that stand", x.held(0, 7), 64);
        Check.due("held of the other hull", x.held(1, 7), 3);
        Check.due("held by who pledged", x.held(0, 0), 0);
        x.redeem(1);
        Check.due("held when one is redeemed", x.held(0, 7), 10);
        x.forge(2);
        Check.due("held when the other is forged", x.held(0, 7), 0);
        x.forge(5);
        Check.due("held when the redeem is forged", x.held(0, 7), 54);
    }

    private static void heldOfWrongNumbers() {
        Check.sentence("promise 19", "NUMBER: there is no such HULL, PERSON.");
        Check.due("held without hulls", new HullRegister().held(0, 0), NUMBER);
        HullRegister x = withHulls(2);
        for (int wrong : NO_HULLS) {
            Check.due("held, hull " + wrong, x.held(wrong, 0), NUMBER);
        }
        for (int wrong : NO_PERSONS) {
            Check.due("held, person " + wrong, x.held(0, wrong), NUMBER);
            Check.due("held, person " + wrong, x.held(1, wrong), NUMBER);
        }
    }
}
