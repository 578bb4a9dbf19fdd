/** Promises 20 to 25: the papers, and the wrong arguments of many(). */
public final class PapersTest {
    private static final int NUMBER = HullRegister.NUMBER;
    private static final int FULL = HullRegister.FULL;
    private static final int TWICE = HullRegister.TWICE;
    private static final int[] FAR = {Integer.MIN_VALUE, Integer.MAX_VALUE};

    public static void main(String[] args) {
        papersComeOrAreRefused();
        daysThatMeet();
        lengthsThatMeet();
        marksThatLet();
        witnessesSayYesAndNo();
        witnessesAreRefused();
        alikeOfWrongNumbers();
        joiningHasTheFewestGroups();
        joiningHasLesserGroupsFirst();
        joiningChangesWithWitnesses();
        eightPapersApartOrTogether();
        manyOfWrongNumbers();
        Check.end();
    }

    private static void isGroups(HullRegister x, String what, int... groups) {
        int most = 0;
        for (int paper = 0; paper < groups.length; paper++) {
            Check.due(what + ": group(" + paper + ")", x.group(paper), groups[paper]);
            most = Math.max(most, groups[paper] + 1);
        }
        Check.due(what + ": groups()", x.groups(), most);
    }

    private static void papersComeOrAreRefused() {
        HullRegister x = new HullRegister();
        for (int wrong : new int[] {-1, 1000, FAR[0], FAR[1]}) {
            Check.due("paper, from day " + wrong, x.paper(wrong, 999, 1, 1, 0), NUMBER);
            Check.due("paper, to day " + wrong, x.paper(0, wrong, 1, 1, 0), NUMBER);
        }
        for (int wrong : new int[] {0, -1, 100, FAR[0], FAR[1]}) {
            Check.due("paper, from length " + wrong, x.paper(0, 1, wrong, 99, 0), NUMBER);
            Check.due("paper, to length " + wrong, x.paper(0, 1, 1, wrong, 0), NUMBER);
        }
        for (int wrong : new int[] {-1, 10, FAR[0], FAR[1]}) {
            Check.due("paper, mark " + wrong, x.paper(0, 1, 1, 1, wrong), NUMBER);
        }
        Check.due("paper, days turned about", x.paper(2, 1, 1, 1, 0), NUMBER);
        Check.due("paper, lengths turned about", x.paper(1, 2, 2, 1, 0), NUMBER);
        Check.due("many(6)", x.many(6), 0);
        Check.due("paper of the least", x.paper(0, 0, 1, 1, 0), 0);
        Check.due("paper of the most", x.paper(999, 999, 99, 99, 9), 1);
        Check.due("paper of all", x.paper(0, 999, 1, 99, 5), 2);
        for (int i = 3; i < 8; i++) {
            Check.due("paper " + i, x.paper(i, i, i, i, i), i);
        }
        Check.due("paper when full", x.paper(0, 0, 1, 1, 0), FULL);
        Check.due("paper: NUMBER ahead of FULL", x.paper(1, 0, 1, 1, 0), NUMBER);
        Check.due("many(6)", x.many(6), 8);
    }

    /** Two papers, told both ways round. */
    private static void areAlike(String what, int[] one, int[] two, int want) {
        HullRegister x = new HullRegister();
        x.paper(one[0], one[1], one[2], one[3], one[4]);
        x.paper(two[0], two[1], two[2], two[3], two[4]);
        Check.due(what + ": alike(0, 1)", x.alike(0, 1), want);
        Check.due(what + ": alike(1, 0)", x.alike(1, 0), want);
        Check.due(what + ": groups()", x.groups(), 2 - want);
        HullRegister y = new HullRegister();
        y.paper(two[0], two[1], two[2], two[3], two[4]);
        y.paper(one[0], one[1], one[2], one[3], one[4]);
        Check.due(what + ", turned about: alike(0, 1)", y.alike(0, 1), want);
    }

    private static int[] paper(int... numbers) {
        return numbers;
    }

    private static void daysThatMeet() {
        areAlike("days apart", paper(0, 4, 5, 5, 1), paper(5, 9, 5, 5, 1), 1);
        areAlike("days meet in one", paper(0, 5, 5, 5, 1), paper(5, 9, 5, 5, 1), 0);
        areAlike("days within", paper(0, 9, 5, 5, 1), paper(3, 4, 5, 5, 1), 0);
        areAlike("the same days", paper(3, 3, 5, 5, 1), paper(3, 3, 5, 5, 1), 0);
        areAlike("days far apart", paper(0, 0, 5, 5, 1), paper(999, 999, 5, 5, 1), 1);
    }

    private static void lengthsThatMeet() {
        areAlike("lengths meet in one", paper(0, 0, 1, 50, 1), paper(1, 1, 50, 99, 1), 1);
        areAlike("lengths apart", paper(0, 0, 1, 49, 1), paper(1, 1, 50, 99, 1), 0);
        areAlike("lengths within", paper(0, 0, 1, 99, 1), paper(1, 1, 50, 50, 1), 1);
        areAlike("lengths overlap", paper(0, 0, 10, 60, 1), paper(1, 1, 40, 90, 1), 1);
    }

    private static void marksThatLet() {
        areAlike("marks unlike", paper(0, 0, 5, 5, 1), paper(1, 1, 5, 5, 2), 0);
        areAlike("marks alike", paper(0, 0, 5, 5, 9), paper(1, 1, 5, 5, 9), 1);
        areAlike("one mark is none", paper(0, 0, 5, 5, 0), paper(1, 1, 5, 5, 2), 1);
        areAlike("both marks are none", paper(0, 0, 5, 5, 0), paper(1, 1, 5, 5, 0), 1);
    }

    private static void witnessesSayYesAndNo() {
        HullRegister x = new HullRegister();
        x.paper(0, 9, 1, 1, 1);
        x.paper(5, 9, 2, 2, 2);
        x.paper(10, 10, 1, 1, 1);
        x.paper(20, 20, 1, 2, 0);
        Check.due("alike(0, 1)", x.alike(0, 1), 0);
        Check.due("witness yes", x.witness(1, 0, true), 1);
        Check.due("alike(0, 1)", x.alike(0, 1), 1);
        Check.due("alike(1, 0)", x.alike(1, 0), 1);
        Check.due("alike(0, 2)", x.alike(0, 2), 1);
        Check.due("witness no", x.witness(0, 2, false), 2);
        Check.due("alike(0, 2)", x.alike(0, 2), 0);
        Check.due("alike(2, 0)", x.alike(2, 0), 0);
        Check.due("witness yes of what is so", x.witness(0, 3, true), 3);
        Check.due("alike(0, 3)", x.alike(0, 3), 1);
        Check.due("witness no of what is so", x.witness(1, 2, false), 4);
        Check.due("alike(1, 2)", x.alike(1, 2), 0);
        Check.due("alike(1, 3), as ever", x.alike(1, 3), 1);
        Check.due("alike(2, 3), as ever", x.alike(2, 3), 1);
        Check.due("many(7)", x.many(7), 4);
        x.paper(30, 30, 1, 1, 1);
        Check.due("alike(0, 1) after a paper", x.alike(0, 1), 1);
        Check.due("alike(0, 2) after a paper", x.alike(0, 2), 0);
        Check.due("alike(0, 4)", x.alike(0, 4), 1);
    }

    private static void witnessesAreRefused() {
        HullRegister x = new HullRegister();
        Check.due("witness without papers", x.witness(0, 1, true), NUMBER);
        for (int i = 0; i < 5; i++) {
            x.paper(i, i, 1, 1, 0);
        }
        for (int wrong : new int[] {-1, 5, 8, FAR[0], FAR[1]}) {
            Check.due("witness(" + wrong + ", 0)", x.witness(wrong, 0, true), NUMBER);
            Check.due("witness(0, " + wrong + ")", x.witness(0, wrong, true), NUMBER);
            Check.due("witness of the same " + wrong, x.witness(wrong, wrong, true), NUMBER);
        }
        Check.due("witness of the same", x.witness(4, 4, false), NUMBER);
        Check.due("witness 1", x.witness(0, 1, true), 1);
        Check.due("witness twice", x.witness(0, 1, true), TWICE);
        Check.due("witness twice, saying no", x.witness(0, 1, false), TWICE);
        Check.due("witness twice, turned about", x.witness(1, 0, false), TWICE);
        Check.due("alike(0, 1)", x.alike(0, 1), 1);
        Check.due("witness 2", x.witness(2, 0, false), 2);
        Check.due("witness 3", x.witness(0, 3, false), 3);
        Check.due("witness 4", x.witness(4, 0, false), 4);
        Check.due("witness 5", x.witness(1, 2, false), 5);
        Check.due("witness 6", x.witness(3, 1, false), 6);
        Check.due("witness when full", x.witness(3, 4, false), FULL);
        Check.due("alike(3, 4) after FULL", x.alike(3, 4), 1);
        int[] heard = {0, 1, 0, 2, 0, 3, 0, 4, 1, 2, 1, 3};
        for (int i = 0; i < heard.length; i += 2) {
            Check.due("witness: TWICE ahead of FULL", x.witness(heard[i], heard[i + 1], true), TWICE);
            Check.due("witness: TWICE, turned about", x.witness(heard[i + 1], heard[i], true), TWICE);
        }
        Check.due("witness: NUMBER ahead of FULL", x.witness(1, 1, true), NUMBER);
        Check.due("many(7)", x.many(7), 6);
    }

    private static void alikeOfWrongNumbers() {
        HullRegister x = new HullRegister();
        Check.due("alike(0, 0) without papers", x.alike(0, 0), NUMBER);
        x.paper(0, 0, 1, 1, 0);
        x.paper(1, 1, 1, 1, 0);
        Check.due("alike(1, 1)", x.alike(1, 1), NUMBER);
        for (int wrong : new int[] {-1, 2, 8, 32, FAR[0], FAR[1]}) {
            Check.due("alike(" + wrong + ", 0)", x.alike(wrong, 0), NUMBER);
            Check.due("alike(0, " + wrong + ")", x.alike(0, wrong), NUMBER);
            Check.due("group(" + wrong + ")", x.group(wrong), NUMBER);
        }
    }

    /** Papers that may all be of one hull but for the pairs that are told. */
    private static HullRegister allAlikeBut(int papers, int... pairs) {
        HullRegister x = new HullRegister();
        for (int i = 0; i < papers; i++) {
            x.paper(i, i, 1, 1, 0);
        }
        for (int i = 0; i + 1 < pairs.length; i += 2) {
            Check.holds("a witness is heard", x.witness(pairs[i], pairs[i + 1], false) > 0);
        }
        return x;
    }

    private static void joiningHasTheFewestGroups() {
        isGroups(allAlikeBut(4, 0, 2, 0, 3, 1, 3), "a path", 0, 0, 1, 1);
        // Putting each paper into the first group that lets it would need three groups here.
        isGroups(allAlikeBut(4, 0, 3, 1, 2, 2, 3), "a turned path", 0, 1, 0, 1);
        HullRegister z = new HullRegister();
        z.paper(0, 0, 1, 99, 0);
        z.paper(1, 1, 1, 9, 0);
        z.paper(2, 2, 20, 29, 0);
        z.paper(3, 3, 9, 20, 0);
        isGroups(z, "a bridge", 0, 0, 1, 0);
    }

    private static void joiningHasLesserGroupsFirst() {
        HullRegister x = allAlikeBut(3, 1, 2);
        isGroups(x, "0 with either", 0, 0, 1);
        HullRegister y = allAlikeBut(4, 0, 1, 2, 3);
        isGroups(y, "two by two", 0, 1, 0, 1);
        // 0 and 1 together leave 2, 3 and 4 apart: the fewest groups are ahead of the lesser ones.
        HullRegister z = allAlikeBut(5, 0, 2, 0, 3, 1, 4, 2, 4, 3, 4);
        isGroups(z, "fewest ahead of lesser", 0, 1, 1, 1, 0);
    }

    private static void joiningChangesWithWitnesses() {
        HullRegister x = allAlikeBut(3);
        isGroups(x, "all alike", 0, 0, 0);
        x.witness(0, 1, false);
        isGroups(x, "0 and 1 apart", 0, 1, 0);
        x.witness(2, 0, false);
        isGroups(x, "0 alone", 0, 1, 1);
        x.witness(1, 2, false);
        isGroups(x, "each alone", 0, 1, 2);
        x.paper(3, 3, 1, 1, 0);
        isGroups(x, "with one more", 0, 1, 2, 0);
        HullRegister y = new HullRegister();
        y.paper(0, 9, 1, 1, 1);
        y.paper(0, 9, 2, 2, 2);
        isGroups(y, "unlike", 0, 1);
        y.witness(0, 1, true);
        isGroups(y, "said to be one", 0, 0);
    }

    private static void eightPapersApartOrTogether() {
        HullRegister x = new HullRegister();
        for (int i = 0; i < 8; i++) {
            x.paper(5, 5, 1, 1, 0);
        }
        isGroups(x, "eight apart", 0, 1, 2, 3, 4, 5, 6, 7);
        x.witness(7, 0, true);
        isGroups(x, "the last with the first", 0, 1, 2, 3, 4, 5, 6, 0);
        isGroups(allAlikeBut(8), "eight together", 0, 0, 0, 0, 0, 0, 0, 0);
    }

    private static void manyOfWrongNumbers() {
        HullRegister x = new HullRegister();
        for (int wrong : new int[] {-1, 9, FAR[0], FAR[1]}) {
            Check.due("many(" + wrong + ")", x.many(wrong), NUMBER);
        }
    }
}
