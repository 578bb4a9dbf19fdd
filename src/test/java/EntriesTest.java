/** Promises 12 to 19, and what many() tells of entries. */
public final class EntriesTest {
    private static final int NUMBER = HullRegister.NUMBER;
    private static final int FULL = HullRegister.FULL;
    private static final int TWICE = HullRegister.TWICE;
    private static final int NONE = HullRegister.NONE;
    private static final int KIND = HullRegister.KIND;
    private static final int[] WRONG_HULLS = {-1, 1, 5, Integer.MIN_VALUE, Integer.MAX_VALUE};
    private static final int[] WRONG_PERSONS = {-1, 8, Integer.MIN_VALUE, Integer.MAX_VALUE};

    public static void main(String[] args) {
        salesBringParts();
        pledgesStandByRank();
        saleAndPledgeWithWrongNumbers();
        redeemEndsAPledge();
        redeemIsRefused();
        forgeTakesBack();
        forgedRedeemAndPledge();
        entryTellsAll();
        hullsAreApart();
        managerIsTheLeastOfLikeOnes();
        sixtyEntriesAtMost();
        Check.end();
    }

    private static HullRegister withHulls(int n) {
        HullRegister x = new HullRegister();
        for (int i = 0; i < n; i++) {
            x.hull(9, 8, 7, 6);
        }
        return x;
    }

    private static void hasParts(HullRegister x, int hull, int person, int all, int free) {
        String whose = "(" + hull + ", " + person + ", ";
        Check.due("parts" + whose + "false)", x.parts(hull, person, false), all);
        Check.due("parts" + whose + "true)", x.parts(hull, person, true), free);
    }

    private static void isEntry(HullRegister x, int entry, int... told) {
        for (int what = 0; what < told.length; what++) {
            Check.due("entry(" + entry + ", " + what + ")", x.entry(entry, what), told[what]);
        }
    }

    private static void counts(HullRegister x, int entries, int forged, int voids, int standing) {
        Check.due("many(2)", x.many(2), entries);
        Check.due("many(3)", x.many(3), forged);
        Check.due("many(4)", x.many(4), voids);
        Check.due("many(5)", x.many(5), standing);
    }

    private static void salesBringParts() {
        HullRegister x = withHulls(1);
        hasParts(x, 0, 0, 64, 64);
        hasParts(x, 0, 7, 0, 0);
        Check.due("sell all", x.sell(0, 0, 7, 64), 0);
        hasParts(x, 0, 0, 0, 0);
        hasParts(x, 0, 7, 64, 64);
        Check.due("sell of none", x.sell(0, 0, 1, 1), 1);
        Check.due("sell one", x.sell(0, 7, 0, 1), 2);
        Check.due("sell more than left", x.sell(0, 7, 1, 64), 3);
        Check.due("sell what is left", x.sell(0, 7, 1, 63), 4);
        isEntry(x, 0, 0, 0, 0, 7, 64, 0, 0, NONE, NONE);
        isEntry(x, 1, 0, 0, 0, 1, 1, 0, 1, NONE, NONE);
        isEntry(x, 2, 0, 0, 7, 0, 1, 0, 0, NONE, NONE);
        isEntry(x, 3, 0, 0, 7, 1, 64, 0, 1, NONE, NONE);
        isEntry(x, 4, 0, 0, 7, 1, 63, 0, 0, NONE, NONE);
        hasParts(x, 0, 0, 1, 1);
        hasParts(x, 0, 1, 63, 63);
        hasParts(x, 0, 7, 0, 0);
        counts(x, 5, 0, 2, 0);
    }

    private static void pledgesStandByRank() {
        HullRegister x = withHulls(1);
        Check.due("pledge", x.pledge(0, 0, 1, 30), 0);
        Check.due("pledge to another", x.pledge(0, 0, 2, 20), 1);
        Check.due("pledge of too many", x.pledge(0, 0, 1, 15), 2);
        Check.due("pledge of the rest", x.pledge(0, 0, 1, 14), 3);
        isEntry(x, 0, 1, 0, 0, 1, 30, 0, 0, 0, NONE);
        isEntry(x, 1, 1, 0, 0, 2, 20, 0, 0, 1, NONE);
        isEntry(x, 2, 1, 0, 0, 1, 15, 0, 1, NONE, NONE);
        isEntry(x, 3, 1, 0, 0, 1, 14, 0, 0, 2, NONE);
        hasParts(x, 0, 0, 64, 0);
        hasParts(x, 0, 1, 0, 0);
        Check.due("held(0, 1)", x.held(0, 1), 44);
        Check.due("held(0, 2)", x.held(0, 2), 20);
        Check.due("held(0, 0)", x.held(0, 0), 0);
        Check.due("sale of pledged parts", x.sell(0, 0, 3, 1), 4);
        Check.due("entry(4, 6)", x.entry(4, 6), 1);
        Check.due("pledge by the holder", x.pledge(0, 1, 2, 1), 5);
        Check.due("entry(5, 6): it has none", x.entry(5, 6), 1);
        counts(x, 6, 0, 3, 3);
        HullRegister y = withHulls(1);
        y.sell(0, 0, 1, 10);
        y.pledge(0, 0, 2, 5);
        y.pledge(0, 1, 2, 5);
        Check.due("rank of the first of person 0", y.entry(1, 7), 0);
        Check.due("rank of the first of person 1", y.entry(2, 7), 0);
        hasParts(y, 0, 1, 10, 5);
        Check.due("held(0, 2)", y.held(0, 2), 10);
    }

    private static void saleAndPledgeWithWrongNumbers() {
        HullRegister x = new HullRegister();
        Check.due("sell without hulls", x.sell(0, 0, 1, 1), NUMBER);
        Check.due("pledge without hulls", x.pledge(0, 0, 1, 1), NUMBER);
        x.hull(1, 1, 1, 1);
        for (int wrong : WRONG_HULLS) {
            Check.due("sell, hull " + wrong, x.sell(wrong, 0, 1, 1), NUMBER);
            Check.due("pledge, hull " + wrong, x.pledge(wrong, 0, 1, 1), NUMBER);
            Check.due("parts, hull " + wrong, x.parts(wrong, 0, true), NUMBER);
            Check.due("manager, hull " + wrong, x.manager(wrong), NUMBER);
            Check.due("held, hull " + wrong, x.held(wrong, 0), NUMBER);
        }
        for (int wrong : WRONG_PERSONS) {
            Check.due("sell, person " + wrong, x.sell(0, wrong, 1, 1), NUMBER);
            Check.due("sell, other " + wrong, x.sell(0, 1, wrong, 1), NUMBER);
            Check.due("sell, both " + wrong, x.sell(0, wrong, wrong, 1), NUMBER);
            Check.due("pledge, person " + wrong, x.pledge(0, wrong, 1, 1), NUMBER);
            Check.due("pledge, other " + wrong, x.pledge(0, 1, wrong, 1), NUMBER);
            Check.due("parts, person " + wrong, x.parts(0, wrong, false), NUMBER);
            Check.due("held, person " + wrong, x.held(0, wrong), NUMBER);
        }
        for (int wrong : new int[] {0, 65, -1, Integer.MIN_VALUE, Integer.MAX_VALUE}) {
            Check.due("sell, n " + wrong, x.sell(0, 0, 1, wrong), NUMBER);
            Check.due("pledge, n " + wrong, x.pledge(0, 0, 1, wrong), NUMBER);
        }
        for (int person = 0; person < 8; person++) {
            Check.due("sell to oneself", x.sell(0, person, person, 1), NUMBER);
            Check.due("pledge to oneself", x.pledge(0, person, person, 1), NUMBER);
        }
        counts(x, 0, 0, 0, 0);
    }

    private static void redeemEndsAPledge() {
        HullRegister x = withHulls(2);
        x.pledge(1, 0, 3, 50);
        x.pledge(1, 0, 4, 14);
        Check.due("redeem(0)", x.redeem(0), 2);
        isEntry(x, 2, 2, 1, 0, 3, 50, 0, 0, NONE, 0);
        isEntry(x, 0, 1, 1, 0, 3, 50, 0, 0, NONE, NONE);
        Check.due("rank once the first is redeemed", x.entry(1, 7), 0);
        Check.due("held(1, 3)", x.held(1, 3), 0);
        hasParts(x, 1, 0, 64, 50);
        counts(x, 3, 0, 0, 1);
        Check.due("redeem(0) again", x.redeem(0), 3);
        isEntry(x, 3, 2, 1, 0, 3, 50, 0, 1, NONE, 0);
        Check.due("pledge anew", x.pledge(1, 0, 5, 50), 4);
        Check.due("rank of the new one", x.entry(4, 7), 1);
        Check.due("a void pledge", x.pledge(1, 0, 6, 1), 5);
        Check.due("redeem of a void pledge", x.redeem(5), 6);
        isEntry(x, 6, 2, 1, 0, 6, 1, 0, 1, NONE, 5);
        counts(x, 7, 0, 3, 2);
    }

    private static void redeemIsRefused() {
        HullRegister x = withHulls(1);
        Check.due("redeem(0) without entries", x.redeem(0), NUMBER);
        x.sell(0, 0, 1, 1);
        x.pledge(0, 0, 1, 1);
        x.redeem(1);
        Check.due("redeem of a sale", x.redeem(0), KIND);
        Check.due("redeem of a redeem", x.redeem(2), KIND);
        for (int wrong : new int[] {-1, 3, 60, Integer.MIN_VALUE, Integer.MAX_VALUE}) {
            Check.due("redeem(" + wrong + ")", x.redeem(wrong), NUMBER);
        }
        counts(x, 3, 0, 0, 0);
    }

    private static void forgeTakesBack() {
        HullRegister x = withHulls(1);
        Check.due("forge(0) without entries", x.forge(0), NUMBER);
        x.sell(0, 0, 1, 64);
        x.sell(0, 1, 2, 64);
        x.pledge(0, 2, 3, 64);
        x.pledge(0, 0, 3, 10);
        x.redeem(2);
        counts(x, 5, 0, 1, 0);
        Check.due("forge(0)", x.forge(0), 1);
        isEntry(x, 0, 0, 0, 0, 1, 64, 1, 0, NONE, NONE);
        isEntry(x, 1, 0, 0, 1, 2, 64, 0, 1, NONE, NONE);
        isEntry(x, 2, 1, 0, 2, 3, 64, 0, 1, NONE, NONE);
        isEntry(x, 3, 1, 0, 0, 3, 10, 0, 0, 0, NONE);
        isEntry(x, 4, 2, 0, 2, 3, 64, 0, 1, NONE, 2);
        hasParts(x, 0, 0, 64, 54);
        hasParts(x, 0, 2, 0, 0);
        counts(x, 5, 1, 3, 1);
        Check.due("forge(0) again", x.forge(0), TWICE);
        Check.due("forge of a void one", x.forge(1), 1);
        Check.due("a forged one isn't void", x.entry(1, 6), 0);
        counts(x, 5, 2, 2, 1);
        for (int wrong : new int[] {-1, 5, 60, Integer.MIN_VALUE, Integer.MAX_VALUE}) {
            Check.due("forge(" + wrong + ")", x.forge(wrong), NUMBER);
        }
        Check.due("many(3)", x.many(3), 2);
    }

    private static void forgedRedeemAndPledge() {
        HullRegister x = withHulls(1);
        x.pledge(0, 0, 1, 40);
        x.redeem(0);
        x.pledge(0, 0, 2, 40);
        Check.due("rank ahead of forging", x.entry(2, 7), 0);
        Check.due("forge of the redeem", x.forge(1), 1);
        isEntry(x, 1, 2, 0, 0, 1, 40, 1, 0, NONE, 0);
        Check.due("the pledge stands again", x.entry(0, 7), 0);
        Check.due("the later one is void", x.entry(2, 6), 1);
        Check.due("held(0, 1)", x.held(0, 1), 40);
        Check.due("forge of the pledge", x.forge(0), 1);
        Check.due("no rank when forged", x.entry(0, 7), NONE);
        Check.due("the later one stands", x.entry(2, 7), 0);
        Check.due("redeem of a forged pledge", x.redeem(0), 3);
        isEntry(x, 3, 2, 0, 0, 1, 40, 0, 1, NONE, 0);
        counts(x, 4, 2, 1, 1);
        Check.due("a second redeem takes over when the first is forged", firstRedeemForged(), 0);
    }

    private static int firstRedeemForged() {
        HullRegister x = withHulls(1);
        x.pledge(0, 0, 1, 40);
        x.redeem(0);
        x.redeem(0);
        Check.due("the second redeem is void", x.entry(2, 6), 1);
        x.forge(1);
        return x.entry(2, 6);
    }

    private static void entryTellsAll() {
        HullRegister x = withHulls(5);
        x.sell(4, 0, 7, 3);
        x.pledge(3, 0, 6, 2);
        x.redeem(1);
        isEntry(x, 0, 0, 4, 0, 7, 3, 0, 0, NONE, NONE);
        isEntry(x, 1, 1, 3, 0, 6, 2, 0, 0, NONE, NONE);
        isEntry(x, 2, 2, 3, 0, 6, 2, 0, 0, NONE, 1);
        for (int wrong : new int[] {-1, 9, Integer.MIN_VALUE, Integer.MAX_VALUE}) {
            Check.due("entry(0, " + wrong + ")", x.entry(0, wrong), NUMBER);
            Check.due("entry(1, " + wrong + ")", x.entry(1, wrong), NUMBER);
        }
        for (int wrong : new int[] {-1, 3, 60, Integer.MIN_VALUE, Integer.MAX_VALUE}) {
            for (int what = 0; what <= 8; what++) {
                Check.due("entry(" + wrong + ", " + what + ")", x.entry(wrong, what), NUMBER);
            }
        }
    }

    private static void hullsAreApart() {
        HullRegister x = withHulls(2);
        x.sell(0, 0, 1, 64);
        x.pledge(1, 0, 1, 10);
        x.pledge(0, 1, 0, 5);
        hasParts(x, 0, 0, 0, 0);
        hasParts(x, 0, 1, 64, 59);
        hasParts(x, 1, 0, 64, 54);
        hasParts(x, 1, 1, 0, 0);
        Check.due("held(0, 0)", x.held(0, 0), 5);
        Check.due("held(1, 0)", x.held(1, 0), 0);
        Check.due("held(0, 1)", x.held(0, 1), 0);
        Check.due("held(1, 1)", x.held(1, 1), 10);
        Check.due("rank of hull 1", x.entry(1, 7), 0);
        Check.due("rank of hull 0", x.entry(2, 7), 0);
        Check.due("manager(0)", x.manager(0), 1);
        Check.due("manager(1)", x.manager(1), 0);
        x.hull(1, 1, 1, 1);
        hasParts(x, 2, 0, 64, 64);
        Check.due("manager(2)", x.manager(2), 0);
        x.sell(0, 1, 7, 30);
        hasParts(x, 0, 7, 30, 30);
        hasParts(x, 1, 7, 0, 0);
    }

    private static void managerIsTheLeastOfLikeOnes() {
        HullRegister x = withHulls(1);
        Check.due("manager at first", x.manager(0), 0);
        x.sell(0, 0, 5, 32);
        Check.due("manager of two halves", x.manager(0), 0);
        x.sell(0, 0, 3, 1);
        Check.due("manager with more", x.manager(0), 5);
        x.sell(0, 5, 7, 16);
        Check.due("manager 0 again", x.manager(0), 0);
        x.sell(0, 0, 3, 15);
        Check.due("manager of four like ones", x.manager(0), 0);
        x.sell(0, 0, 7, 1);
        Check.due("manager 7", x.manager(0), 7);
        x.sell(0, 5, 3, 1);
        Check.due("manager 3 of 3 and 7", x.manager(0), 3);
        x.pledge(0, 3, 1, 17);
        Check.due("pledged parts count", x.manager(0), 3);
    }

    private static void sixtyEntriesAtMost() {
        HullRegister x = withHulls(1);
        Check.due("pledge", x.pledge(0, 0, 1, 1), 0);
        for (int i = 1; i < 60; i++) {
            int answer = i % 3 == 0 ? x.sell(0, 0, 1, 1) : i % 3 == 1 ? x.redeem(0) : x.pledge(0, 0, 1, 1);
            Check.due("entry " + i, answer, i);
        }
        Check.due("sell when full", x.sell(0, 0, 1, 1), FULL);
        Check.due("pledge when full", x.pledge(0, 0, 1, 1), FULL);
        Check.due("redeem when full", x.redeem(0), FULL);
        Check.due("sell: NUMBER ahead of FULL", x.sell(0, 0, 1, 0), NUMBER);
        Check.due("pledge: NUMBER ahead of FULL", x.pledge(0, 0, 1, 65), NUMBER);
        Check.due("redeem: NUMBER ahead of FULL", x.redeem(60), NUMBER);
        Check.due("redeem: KIND ahead of FULL", x.redeem(3), KIND);
        Check.due("forge of the last", x.forge(59), 1);
        Check.due("forge of the last again", x.forge(59), TWICE);
        Check.due("sell when full, one being forged", x.sell(0, 0, 1, 1), FULL);
        counts(x, 60, 1, 19, 19);
        hasParts(x, 0, 1, 19, 19);
        hasParts(x, 0, 0, 45, 26);
    }
}
