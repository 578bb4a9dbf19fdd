import java.io.IOException;
import java.util.Arrays;

/** Terms 4 and promises 20 to 25 at their edges: a test for each sentence that names one. */
public final class PapersEdgesTest {
    private static final int NUMBER = HullRegister.NUMBER;
    private static final int FULL = HullRegister.FULL;
    private static final int TWICE = HullRegister.TWICE;
    private static final int[] NO_DAYS = {-1, 1000, Integer.MIN_VALUE, Integer.MAX_VALUE};
    private static final int[] NO_LENGTHS = {0, 100, -1, Integer.MIN_VALUE, Integer.MAX_VALUE};
    private static final int[] NO_MARKS = {-1, 10, Integer.MIN_VALUE, Integer.MAX_VALUE};
    /** Where there are three papers; a bit moved by 32 or 33 would be that of paper 0 or 1. */
    private static final int[] NO_PAPERS = {-1, 3, 8, 32, 33, -32, Integer.MIN_VALUE, Integer.MAX_VALUE};

    public static void main(String[] args) throws IOException {
        theTermsOfPapers();
        whatMayBeOne();
        witnesses();
        theJoining();
        paperComing();
        witnessing();
        telling();
        Check.endOfSentences(args);
    }

    private static void theTermsOfPapers() {
        eightPapersAtMost();
        daysOfPapers();
        lengthsOfPapers();
        marksOfPapers();
    }

    private static void whatMayBeOne() {
        daysThatDontMeet();
        lengthsThatMeet();
        marksThatAreAlike();
        allThreeAreNeeded();
    }

    private static void witnesses() {
        aWitnessSaysSo();
        aWitnessSaysNo();
        sixWitnessesAtMost();
    }

    private static void theJoining() {
        eachTwoOfAGroup();
        groupsByTheirLeastPapers();
        theFewestGroups();
        theLesserGroupFirst();
        everyWayOfFourPapers();
    }

    private static void paperComing() {
        paperAnswersItsNumber();
        paperOfWrongNumbers();
        fromAboveTo();
        paperWhenFull();
    }

    private static void witnessing() {
        howManyWitnesses();
        witnessOfWrongNumbers();
        witnessTwice();
        witnessWhenFull();
    }

    private static void telling() {
        oneOrZero();
        alikeOfWrongNumbers();
        groupOfWrongNumbers();
        howManyGroups();
        howManyOfEach();
        manyOfAnotherWhat();
    }

    private static int[] paper(int... numbers) {
        return numbers;
    }

    private static int add(HullRegister x, int[] paper) {
        return x.paper(paper[0], paper[1], paper[2], paper[3], paper[4]);
    }

    /** Two papers, whichever comes first, told both ways round, and in groups by that. */
    private static void areAlike(int[] one, int[] two, int want) {
        String which = Arrays.toString(one) + " and " + Arrays.toString(two);
        for (int turn = 0; turn < 2; turn++) {
            HullRegister x = new HullRegister();
            add(x, turn == 0 ? one : two);
            add(x, turn == 0 ? two : one);
            Check.due(which + ": alike(0, 1)", x.alike(0, 1), want);
            Check.due(which + ": alike(1, 0)", x.alike(1, 0), want);
            Check.due(which + ": groups()", x.groups(), 2 - want);
        }
    }

    private static void isGroups(HullRegister x, int... groups) {
        int most = 0;
        for (int i = 0; i < groups.length; i++) {
            Check.due("group(" + i + ") of " + Arrays.toString(groups), x.group(i), groups[i]);
            most = Math.max(most, groups[i] + 1);
        }
        Check.due("groups()", x.groups(), most);
    }

    /** Papers that may all be of one hull but for the pairs that are told. */
    private static HullRegister allAlikeBut(int papers, int... pairs) {
        HullRegister x = new HullRegister();
        for (int i = 0; i < papers; i++) {
            x.paper(i, i, 1, 1, 0);
        }
        for (int i = 0; i + 1 < pairs.length; i += 2) {
            Check.due("a witness", x.witness(pairs[i], pairs[i + 1], false), i / 2 + 1);
        }
        return x;
    }

    private static void eightPapersAtMost() {
        Check.sentence("terms 4", "PAPERS are numbered from 0 as they come, 8 at most");
        HullRegister x = new HullRegister();
        for (int i = 0; i < 8; i++) {
            Check.due("paper " + i, x.paper(i, i, 1, 1, 0), i);
            Check.due("many(6)", x.many(6), i + 1);
        }
        Check.due("a ninth paper", x.paper(8, 8, 1, 1, 0), FULL);
        Check.due("many(6)", x.many(6), 8);
        Check.due("group(7)", x.group(7), 0);
        Check.due("group(8)", x.group(8), NUMBER);
        Check.due("alike(7, 0)", x.alike(7, 0), 1);
    }

    private static void daysOfPapers() {
        Check.sentence("terms 4", "each with DAYS from a to b");
        HullRegister x = new HullRegister();
        Check.due("the first day alone", x.paper(0, 0, 1, 1, 0), 0);
        Check.due("the last day alone", x.paper(999, 999, 1, 1, 0), 1);
        Check.due("all days", x.paper(0, 999, 1, 1, 0), 2);
        Check.due("from -1", x.paper(-1, 5, 1, 1, 0), NUMBER);
        Check.due("to 1000", x.paper(5, 1000, 1, 1, 0), NUMBER);
        Check.due("from 6 to 5", x.paper(6, 5, 1, 1, 0), NUMBER);
        Check.due("alike(0, 1)", x.alike(0, 1), 1);
        Check.due("alike(0, 2)", x.alike(0, 2), 0);
        Check.due("alike(1, 2)", x.alike(1, 2), 0);
    }

    private static void lengthsOfPapers() {
        Check.sentence("terms 4", "LENGTHS from c to d (1 to 99)");
        HullRegister x = new HullRegister();
        Check.due("the least length alone", x.paper(0, 0, 1, 1, 0), 0);
        Check.due("the greatest length alone", x.paper(1, 1, 99, 99, 0), 1);
        Check.due("all lengths", x.paper(2, 2, 1, 99, 0), 2);
        Check.due("from 0", x.paper(0, 0, 0, 5, 0), NUMBER);
        Check.due("to 100", x.paper(0, 0, 5, 100, 0), NUMBER);
        Check.due("from 6 to 5", x.paper(0, 0, 6, 5, 0), NUMBER);
        Check.due("alike(0, 1)", x.alike(0, 1), 0);
        Check.due("alike(0, 2)", x.alike(0, 2), 1);
        Check.due("alike(1, 2)", x.alike(1, 2), 1);
    }

    private static void marksOfPapers() {
        Check.sentence("terms 4", "and a MARK (0 to 9, 0: none)");
        HullRegister x = new HullRegister();
        Check.due("mark 0", x.paper(0, 0, 1, 1, 0), 0);
        Check.due("mark 9", x.paper(1, 1, 1, 1, 9), 1);
        Check.due("mark 8", x.paper(2, 2, 1, 1, 8), 2);
        Check.due("mark 10", x.paper(3, 3, 1, 1, 10), NUMBER);
        Check.due("mark -1", x.paper(3, 3, 1, 1, -1), NUMBER);
        Check.due("0 is none", x.alike(0, 1), 1);
        Check.due("9 is one", x.alike(1, 2), 0);
    }

    private static void daysThatDontMeet() {
        Check.sentence("terms 4", "if their DAYS don't meet (no DAY is in both)");
        areAlike(paper(0, 4, 5, 5, 1), paper(5, 9, 5, 5, 1), 1);
        areAlike(paper(0, 5, 5, 5, 1), paper(5, 9, 5, 5, 1), 0);
        areAlike(paper(0, 6, 5, 5, 1), paper(5, 9, 5, 5, 1), 0);
        areAlike(paper(0, 9, 5, 5, 1), paper(3, 4, 5, 5, 1), 0);
        areAlike(paper(0, 9, 5, 5, 1), paper(0, 9, 5, 5, 1), 0);
        areAlike(paper(3, 3, 5, 5, 1), paper(3, 3, 5, 5, 1), 0);
        areAlike(paper(3, 3, 5, 5, 1), paper(4, 4, 5, 5, 1), 1);
        areAlike(paper(0, 998, 5, 5, 1), paper(999, 999, 5, 5, 1), 1);
        areAlike(paper(0, 999, 5, 5, 1), paper(999, 999, 5, 5, 1), 0);
        areAlike(paper(0, 0, 5, 5, 1), paper(1, 999, 5, 5, 1), 1);
        areAlike(paper(0, 0, 5, 5, 1), paper(0, 999, 5, 5, 1), 0);
    }

    private static void lengthsThatMeet() {
        Check.sentence("terms 4", "their LENGTHS meet (some is in both)");
        areAlike(paper(0, 0, 1, 50, 1), paper(1, 1, 50, 99, 1), 1);
        areAlike(paper(0, 0, 1, 49, 1), paper(1, 1, 50, 99, 1), 0);
        areAlike(paper(0, 0, 1, 51, 1), paper(1, 1, 50, 99, 1), 1);
        areAlike(paper(0, 0, 1, 99, 1), paper(1, 1, 50, 50, 1), 1);
        areAlike(paper(0, 0, 50, 50, 1), paper(1, 1, 50, 50, 1), 1);
        areAlike(paper(0, 0, 50, 50, 1), paper(1, 1, 51, 51, 1), 0);
        areAlike(paper(0, 0, 1, 98, 1), paper(1, 1, 99, 99, 1), 0);
        areAlike(paper(0, 0, 1, 99, 1), paper(1, 1, 99, 99, 1), 1);
        areAlike(paper(0, 0, 1, 1, 1), paper(1, 1, 2, 99, 1), 0);
        areAlike(paper(0, 0, 1, 1, 1), paper(1, 1, 1, 99, 1), 1);
    }

    private static void marksThatAreAlike() {
        Check.sentence("terms 4", "and their MARKS are alike, or one is 0");
        for (int mark = 0; mark <= 9; mark++) {
            for (int other = 0; other <= 9; other++) {
                boolean let = mark == other || mark == 0 || other == 0;
                areAlike(paper(0, 0, 5, 5, mark), paper(1, 1, 5, 5, other), let ? 1 : 0);
            }
        }
    }

    private static void allThreeAreNeeded() {
        Check.sentence("terms 4",
                "Two PAPERS may be of one HULL if their DAYS don't meet (no DAY is in both), their LENGTHS meet"
                + " (some is in both), and their MARKS are alike, or one is 0");
        int[] one = paper(10, 20, 30, 40, 5);
        areAlike(one, paper(21, 30, 40, 50, 5), 1);
        areAlike(one, paper(20, 30, 40, 50, 5), 0);
        areAlike(one, paper(21, 30, 41, 50, 5), 0);
        areAlike(one, paper(21, 30, 40, 50, 6), 0);
        areAlike(one, paper(20, 30, 41, 50, 5), 0);
        areAlike(one, paper(20, 30, 40, 50, 0), 0);
        areAlike(one, paper(21, 30, 41, 50, 0), 0);
        areAlike(one, paper(20, 30, 41, 50, 6), 0);
    }

    private static void aWitnessSaysSo() {
        Check.sentence("terms 4", "or if a WITNESS says so");
        int[][] others = {paper(20, 30, 40, 50, 5), paper(21, 30, 41, 50, 5), paper(21, 30, 40, 50, 6),
            paper(20, 30, 41, 50, 6), paper(21, 30, 40, 50, 5)};
        for (int[] other : others) {
            HullRegister x = new HullRegister();
            add(x, paper(10, 20, 30, 40, 5));
            add(x, other);
            Check.due("witness", x.witness(1, 0, true), 1);
            Check.due("alike(0, 1)", x.alike(0, 1), 1);
            Check.due("alike(1, 0)", x.alike(1, 0), 1);
            isGroups(x, 0, 0);
            x.paper(0, 999, 1, 1, 0);
            Check.due("alike(0, 1) when a paper has come", x.alike(0, 1), 1);
            isGroups(x, 0, 0, 1);
        }
    }

    private static void aWitnessSaysNo() {
        Check.sentence("terms 4", "not if a WITNESS says no");
        int[][] others = {paper(21, 30, 40, 50, 5), paper(20, 30, 40, 50, 5)};
        for (int[] other : others) {
            HullRegister x = new HullRegister();
            add(x, paper(10, 20, 30, 40, 5));
            add(x, other);
            Check.due("witness", x.witness(1, 0, false), 1);
            Check.due("alike(0, 1)", x.alike(0, 1), 0);
            Check.due("alike(1, 0)", x.alike(1, 0), 0);
            isGroups(x, 0, 1);
            x.paper(0, 999, 1, 1, 0);
            Check.due("alike(1, 0) when a paper has come", x.alike(1, 0), 0);
            isGroups(x, 0, 1, 2);
        }
    }

    private static void sixWitnessesAtMost() {
        Check.sentence("terms 4", "(6 WITNESSES at most, each of two PAPERS)");
        HullRegister x = new HullRegister();
        for (int i = 0; i < 8; i++) {
            x.paper(i, i, 1, 1, 0);
        }
        for (int i = 0; i < 6; i++) {
            Check.due("witness " + i, x.witness(i, i + 1, i % 2 == 0), i + 1);
            Check.due("many(7)", x.many(7), i + 1);
        }
        Check.due("a seventh", x.witness(6, 7, false), FULL);
        Check.due("a seventh who says yes", x.witness(0, 7, true), FULL);
        Check.due("many(7)", x.many(7), 6);
        Check.due("alike(6, 7)", x.alike(6, 7), 1);
        for (int i = 0; i < 6; i++) {
            Check.due("alike(" + i + ", " + (i + 1) + ")", x.alike(i, i + 1), i % 2 == 0 ? 1 : 0);
        }
        Check.due("alike of two without a witness", x.alike(0, 2), 1);
    }

    private static void eachTwoOfAGroup() {
        Check.sentence("terms 4", "A JOINING parts all PAPERS into GROUPS, each two of a GROUP being such");
        HullRegister x = new HullRegister();
        x.paper(0, 0, 1, 5, 0);
        x.paper(1, 1, 9, 12, 0);
        x.paper(2, 2, 5, 9, 0);
        // Paper 2 may be with either, but they not with each other.
        isGroups(x, 0, 1, 0);
        HullRegister y = new HullRegister();
        y.paper(0, 0, 1, 1, 1);
        y.paper(1, 1, 1, 1, 2);
        y.paper(2, 2, 1, 1, 0);
        isGroups(y, 0, 1, 0);
        // Paper 2 may be with one of the two that are together, but not with the other.
        isGroups(allAlikeBut(3, 0, 2), 0, 0, 1);
        isGroups(allAlikeBut(3, 1, 2), 0, 0, 1);
        isGroups(allAlikeBut(8), 0, 0, 0, 0, 0, 0, 0, 0);
        HullRegister z = new HullRegister();
        for (int i = 0; i < 8; i++) {
            z.paper(5, 5, 1, 1, 0);
        }
        isGroups(z, 0, 1, 2, 3, 4, 5, 6, 7);
    }

    private static void groupsByTheirLeastPapers() {
        Check.sentence("terms 4", "the GROUPS are numbered by their least PAPERS");
        HullRegister x = new HullRegister();
        int[] marks = {5, 2, 9, 2, 5, 1, 9, 1};
        for (int i = 0; i < 8; i++) {
            x.paper(i, i, 1, 1, marks[i]);
        }
        isGroups(x, 0, 1, 2, 1, 0, 3, 2, 3);
        isGroups(allAlikeBut(3, 0, 1, 0, 2), 0, 1, 1);
        HullRegister y = new HullRegister();
        y.paper(7, 7, 1, 1, 0);
        isGroups(y, 0);
    }

    private static void theFewestGroups() {
        Check.sentence("terms 4", "THE JOINING has the fewest GROUPS");
        // Each paper in the first group that lets it would make three groups of these four.
        isGroups(allAlikeBut(4, 0, 3, 1, 2, 2, 3), 0, 1, 0, 1);
        // The lesser groups for papers 1 and 2 would make three of these five.
        isGroups(allAlikeBut(5, 0, 2, 0, 3, 1, 4, 2, 4, 3, 4), 0, 1, 1, 1, 0);
        // Six in a ring, each at odds with its two neighbours.
        isGroups(allAlikeBut(6, 0, 1, 1, 4, 4, 5, 5, 2, 2, 3, 3, 0), 0, 1, 0, 1, 0, 1);
        isGroups(allAlikeBut(4, 0, 1, 0, 2, 0, 3, 1, 2, 1, 3, 2, 3), 0, 1, 2, 3);
    }

    private static void theLesserGroupFirst() {
        Check.sentence("terms 4",
                "of several it is the one in which the first PAPER for which they are unlike has the lesser"
                + " GROUP");
        isGroups(allAlikeBut(3, 1, 2), 0, 0, 1);
        isGroups(allAlikeBut(4, 0, 1, 2, 3), 0, 1, 0, 1);
        isGroups(allAlikeBut(4, 0, 1), 0, 1, 0, 0);
        isGroups(allAlikeBut(8, 6, 7), 0, 0, 0, 0, 0, 0, 0, 1);
        isGroups(allAlikeBut(8, 0, 1, 2, 3, 4, 5, 6, 7), 0, 1, 0, 1, 0, 1, 0, 1);
    }

    /** Six witnesses say of each two of four papers yes or no: every way there is. */
    private static void everyWayOfFourPapers() {
        Check.sentence("terms 4", "THE JOINING has the fewest GROUPS; of several it is the one");
        for (int way = 0; way < 64; way++) {
            HullRegister x = new HullRegister();
            boolean[][] may = new boolean[4][4];
            for (int i = 0; i < 4; i++) {
                x.paper(way, way + i, 1, 1, i % 2);
            }
            int pair = 0;
            for (int i = 0; i < 4; i++) {
                for (int j = i + 1; j < 4; j++) {
                    may[i][j] = (way >> pair & 1) == 1;
                    x.witness(j, i, may[i][j]);
                    pair++;
                }
            }
            isGroups(x, bestOfFour(may));
        }
    }

    /** All rows of four groups from 0 0 0 0 on in their order: the first with the fewest groups. */
    private static int[] bestOfFour(boolean[][] may) {
        int[] best = null;
        int fewest = 5;
        for (int row = 0; row < 256; row++) {
            int[] groups = {row >> 6, row >> 4 & 3, row >> 2 & 3, row & 3};
            int used = 0;
            boolean joins = true;
            for (int i = 0; i < 4; i++) {
                joins &= groups[i] <= used;
                used = Math.max(used, groups[i] + 1);
                for (int j = 0; j < i; j++) {
                    joins &= groups[i] != groups[j] || may[j][i];
                }
            }
            if (joins && used < fewest) {
                fewest = used;
                best = groups;
            }
        }
        return best;
    }

    private static void paperAnswersItsNumber() {
        Check.sentence("promise 20", "A PAPER comes: its number.");
        HullRegister x = new HullRegister();
        Check.due("the first", x.paper(0, 9, 1, 9, 5), 0);
        Check.due("a like one", x.paper(0, 9, 1, 9, 5), 1);
        Check.due("many(6)", x.many(6), 2);
        isGroups(x, 0, 1);
    }

    private static void paperOfWrongNumbers() {
        Check.sentence("promise 20", "NUMBER: a number isn't as told");
        HullRegister x = new HullRegister();
        for (int wrong : NO_DAYS) {
            Check.due("paper, a " + wrong, x.paper(wrong, 999, 1, 1, 0), NUMBER);
            Check.due("paper, b " + wrong, x.paper(0, wrong, 1, 1, 0), NUMBER);
            Check.due("paper, a and b " + wrong, x.paper(wrong, wrong, 1, 1, 0), NUMBER);
        }
        for (int wrong : NO_LENGTHS) {
            Check.due("paper, c " + wrong, x.paper(0, 0, wrong, 99, 0), NUMBER);
            Check.due("paper, d " + wrong, x.paper(0, 0, 1, wrong, 0), NUMBER);
            Check.due("paper, c and d " + wrong, x.paper(0, 0, wrong, wrong, 0), NUMBER);
        }
        for (int wrong : NO_MARKS) {
            Check.due("paper, mark " + wrong, x.paper(0, 0, 1, 1, wrong), NUMBER);
        }
        Check.due("many(6)", x.many(6), 0);
        Check.due("groups()", x.groups(), 0);
        Check.due("the next one is the first", x.paper(0, 0, 1, 1, 0), 0);
    }

    private static void fromAboveTo() {
        Check.sentence("promise 20", "or from is above to");
        HullRegister x = new HullRegister();
        Check.due("days from 1 to 0", x.paper(1, 0, 1, 1, 0), NUMBER);
        Check.due("days from 999 to 998", x.paper(999, 998, 1, 1, 0), NUMBER);
        Check.due("lengths from 2 to 1", x.paper(0, 0, 2, 1, 0), NUMBER);
        Check.due("lengths from 99 to 98", x.paper(0, 0, 99, 98, 0), NUMBER);
        Check.due("days from 999 to 0", x.paper(999, 0, 1, 1, 0), NUMBER);
        Check.due("lengths from 99 to 1", x.paper(0, 0, 99, 1, 0), NUMBER);
        Check.due("from is to", x.paper(1, 1, 2, 2, 0), 0);
        Check.due("many(6)", x.many(6), 1);
    }

    private static void paperWhenFull() {
        Check.sentence("promise 20", "FULL.");
        HullRegister x = allAlikeBut(8);
        Check.due("paper when full", x.paper(0, 999, 1, 99, 9), FULL);
        Check.due("paper when full, again", x.paper(8, 8, 1, 1, 0), FULL);
        Check.due("many(6)", x.many(6), 8);
        isGroups(x, 0, 0, 0, 0, 0, 0, 0, 0);
    }

    private static void howManyWitnesses() {
        Check.sentence("promise 21", "A WITNESS: how many there are.");
        HullRegister x = allAlikeBut(4);
        Check.due("many(7) at first", x.many(7), 0);
        Check.due("the first", x.witness(3, 0, true), 1);
        Check.due("the second", x.witness(0, 1, false), 2);
        Check.due("the third", x.witness(1, 3, true), 3);
        Check.due("many(7)", x.many(7), 3);
    }

    private static void witnessOfWrongNumbers() {
        Check.sentence("promise 21", "NUMBER: there is no such PAPER (either), or they are the same");
        Check.due("witness without papers", new HullRegister().witness(0, 1, true), NUMBER);
        HullRegister x = allAlikeBut(3);
        for (int wrong : NO_PAPERS) {
            Check.due("witness(" + wrong + ", 2)", x.witness(wrong, 2, false), NUMBER);
            Check.due("witness(2, " + wrong + ")", x.witness(2, wrong, false), NUMBER);
            Check.due("witness of both " + wrong, x.witness(wrong, wrong, true), NUMBER);
        }
        for (int same = 0; same < 3; same++) {
            Check.due("witness of the same", x.witness(same, same, true), NUMBER);
            Check.due("witness of the same", x.witness(same, same, false), NUMBER);
        }
        Check.due("many(7)", x.many(7), 0);
        isGroups(x, 0, 0, 0);
    }

    private static void witnessTwice() {
        Check.sentence("promise 21", "TWICE: there is one of these two");
        HullRegister x = allAlikeBut(3);
        Check.due("witness", x.witness(0, 2, false), 1);
        Check.due("the same again", x.witness(0, 2, false), TWICE);
        Check.due("the other way round", x.witness(2, 0, false), TWICE);
        Check.due("saying yes now", x.witness(0, 2, true), TWICE);
        Check.due("the other way round, yes", x.witness(2, 0, true), TWICE);
        Check.due("alike(0, 2)", x.alike(0, 2), 0);
        Check.due("many(7)", x.many(7), 1);
        Check.due("another two, one the same", x.witness(0, 1, true), 2);
        Check.due("yes, then no", x.witness(1, 0, false), TWICE);
        Check.due("alike(0, 1)", x.alike(0, 1), 1);
        Check.due("the third two", x.witness(2, 1, true), 3);
        isGroups(x, 0, 0, 1);
    }

    private static void witnessWhenFull() {
        Check.sentence("promise 21", "FULL.");
        HullRegister x = allAlikeBut(5, 0, 1, 0, 2, 0, 3, 0, 4, 1, 2, 1, 3);
        Check.due("witness when full", x.witness(2, 3, false), FULL);
        Check.due("another when full", x.witness(4, 1, false), FULL);
        Check.due("many(7)", x.many(7), 6);
        Check.due("alike(2, 3)", x.alike(2, 3), 1);
        Check.due("alike(4, 1)", x.alike(4, 1), 1);
    }

    private static void oneOrZero() {
        Check.sentence("promise 22", "Whether two PAPERS may be of one HULL: 1, 0.");
        HullRegister x = allAlikeBut(8, 7, 6);
        Check.due("alike(0, 7)", x.alike(0, 7), 1);
        Check.due("alike(7, 0)", x.alike(7, 0), 1);
        Check.due("alike(6, 7)", x.alike(6, 7), 0);
        Check.due("alike(7, 6)", x.alike(7, 6), 0);
    }

    private static void alikeOfWrongNumbers() {
        Check.sentence("promise 22", "NUMBER: there is no such PAPER (either), or they are the same.");
        Check.due("alike without papers", new HullRegister().alike(0, 1), NUMBER);
        HullRegister x = allAlikeBut(3);
        for (int wrong : NO_PAPERS) {
            Check.due("alike(" + wrong + ", 2)", x.alike(wrong, 2), NUMBER);
            Check.due("alike(2, " + wrong + ")", x.alike(2, wrong), NUMBER);
            Check.due("alike of both " + wrong, x.alike(wrong, wrong), NUMBER);
        }
        for (int same = 0; same < 3; same++) {
            Check.due("alike of the same", x.alike(same, same), NUMBER);
        }
    }

    private static void groupOfWrongNumbers() {
        Check.sentence("promise 23", "The GROUP of a PAPER in THE JOINING. NUMBER: there is none such.");
        Check.due("group(0) without papers", new HullRegister().group(0), NUMBER);
        HullRegister x = allAlikeBut(3, 0, 2);
        isGroups(x, 0, 0, 1);
        for (int wrong : NO_PAPERS) {
            Check.due("group(" + wrong + ")", x.group(wrong), NUMBER);
        }
    }

    private static void howManyGroups() {
        Check.sentence("promise 24", "How many GROUPS THE JOINING has.");
        HullRegister x = new HullRegister();
        Check.due("groups() without papers", x.groups(), 0);
        for (int i = 0; i < 8; i++) {
            x.paper(5, 5, 1, 1, 0);
            Check.due("groups() of " + (i + 1) + " apart", x.groups(), i + 1);
        }
        x.witness(0, 7, true);
        Check.due("groups() when two may be one", x.groups(), 7);
        Check.due("groups() of eight together", allAlikeBut(8).groups(), 1);
    }

    private static void howManyOfEach() {
        Check.sentence("promise 25",
                "How many: what = 0 ACTS, 1 HULLS, 2 ENTRIES, 3 that are FORGED, 4 that are VOID, 5 PLEDGES"
                + " that STAND, 6 PAPERS, 7 WITNESSES, 8 letters that are fed.");
        HullRegister x = allAlikeBut(7, 0, 1, 0, 2);
        Check.enact(x, "l", 0);
        for (int i = 0; i < 3; i++) {
            x.hull(1, 1, 1, 1);
        }
        Check.feed(x, "l".repeat(9));
        for (int i = 0; i < 8; i++) {
            x.pledge(0, 0, 1, 1);
        }
        for (int i = 0; i < 6; i++) {
            x.sell(0, 7, 1, 1);
        }
        x.sell(0, 0, 1, 1);
        for (int i = 0; i < 4; i++) {
            x.forge(i);
        }
        x.redeem(4);
        x.forge(8);
        int[] due = {1, 3, 16, 5, 5, 3, 7, 2, 9};
        for (int what = 0; what <= 8; what++) {
            Check.due("many(" + what + ")", x.many(what), due[what]);
        }
    }

    private static void manyOfAnotherWhat() {
        Check.sentence("promise 25", "NUMBER: another what.");
        HullRegister x = new HullRegister();
        for (int wrong : new int[] {-1, 9, 10, -8, 256, Integer.MIN_VALUE, Integer.MAX_VALUE}) {
            Check.due("many(" + wrong + ")", x.many(wrong), NUMBER);
        }
        Check.due("many(0)", x.many(0), 0);
        Check.due("many(8)", x.many(8), 0);
    }
}
