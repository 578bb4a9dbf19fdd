import java.io.IOException;
import java.util.ArrayList;
import java.util.Arrays;
import java.util.List;

/** Promise 1 and what stands behind the terms: refused calls, whichever they are, and every int as an argument. */
public final class RefusedEdgesTest {
    private static final int NUMBER = HullRegister.NUMBER;
    private static final int FULL = HullRegister.FULL;
    private static final int TWICE = HullRegister.TWICE;
    private static final int NONE = HullRegister.NONE;
    private static final int KIND = HullRegister.KIND;
    private static final int NOTHING = HullRegister.NOTHING;
    /** Far off, and such as times 7, 8 or 9, or as a number of bits to move by, would come back by wrap-around. */
    private static final int[] FAR = {Integer.MIN_VALUE, Integer.MIN_VALUE + 1, Integer.MAX_VALUE - 1,
        Integer.MAX_VALUE, 1 << 29, 1 << 30, -(1 << 29), 613566757, 477218589, 1 << 16, -(1 << 16), 32, 33, 256, 257};

    public static void main(String[] args) throws IOException {
        aNewObjectIsEmpty();
        objectsAreApart();
        wrongNumbersAreRefused();
        numbersThatCantBeTold();
        asManyAsMayBe();
        soAlready();
        thereIsNone();
        anotherKind();
        aRefusedCallChangesNothing();
        theFirstRefusalNamed();
        theLastOfAllCalls();
        Check.endOfSentences(args);
    }

    private interface Call {
        int on(HullRegister x, int[] n);
    }

    /** A register with some of everything, and a good text that is fed. */
    private static HullRegister some() {
        HullRegister x = new HullRegister();
        Check.enact(x, "lb*d*", 0);
        Check.enact(x, "lr-", 300);
        Check.enact(x, "7", 600);
        Check.feed(x, "lb+d-");
        for (int i = 0; i < 3; i++) {
            x.hull(9, 8, 7, 6 + i);
            x.measure(i, 299 + i);
        }
        for (int i = 0; i < 5; i++) {
            x.paper(i, i, 1, 1 + i, 0);
        }
        x.witness(0, 1, false);
        x.witness(4, 2, true);
        x.sell(0, 0, 2, 20);
        x.pledge(0, 2, 1, 12);
        x.pledge(0, 2, 3, 8);
        x.redeem(1);
        x.sell(1, 5, 0, 1);
        x.sell(2, 0, 7, 64);
        x.forge(5);
        return x;
    }

    /** A register with as many of everything as may be. */
    private static HullRegister full() {
        HullRegister x = some();
        x.scrap();
        Check.due("act 3", Check.enact(x, "b", 7), 3);
        Check.due("act 4", Check.enact(x, "d", 7), 4);
        Check.feed(x, "l" + " ".repeat(39));
        Check.due("hull 3", x.hull(1, 2, 3, 4), 3);
        Check.due("hull 4", x.hull(1, 2, 3, 4), 4);
        for (int i = 5; i < 8; i++) {
            Check.due("paper " + i, x.paper(9, i + 20, 1, 1, 0), i);
        }
        for (int i = 3; i < 6; i++) {
            Check.due("witness " + i, x.witness(i, i + 2, i % 2 == 0), i);
        }
        Check.due("witness 6", x.witness(0, 7, false), 6);
        for (int i = 6; i < 60; i++) {
            Check.due("entry " + i, x.pledge(4, 0, 1, 1), i);
        }
        return x;
    }

    private static void aNewObjectIsEmpty() {
        Check.sentence("promise 1", "No ACTS, HULLS, ENTRIES, PAPERS, WITNESSES; nothing is fed.");
        HullRegister x = new HullRegister();
        for (int what = 0; what <= 8; what++) {
            Check.due("many(" + what + ")", x.many(what), 0);
        }
        Check.due("scrap()", x.scrap(), 0);
        Check.due("groups()", x.groups(), 0);
        Check.due("inForce(0)", x.inForce(0), NONE);
        Check.due("inForce(999)", x.inForce(999), NONE);
        Check.due("act of nothing", x.act(0), KIND);
        Check.due("tons", x.tons(0, 1, 1, 1, 0), NOTHING);
        Check.due("shape", x.shape(0, 1, 0), NOTHING);
        Check.due("alter", x.alter(0, 1, 1, 1, 0), NUMBER);
        Check.due("measure", x.measure(0, 0), NUMBER);
        Check.due("of", x.of(0, 0), NOTHING);
        Check.due("sell", x.sell(0, 0, 1, 1), NUMBER);
        Check.due("pledge", x.pledge(0, 0, 1, 1), NUMBER);
        Check.due("redeem", x.redeem(0), NUMBER);
        Check.due("forge", x.forge(0), NUMBER);
        Check.due("entry", x.entry(0, 0), NUMBER);
        Check.due("parts", x.parts(0, 0, false), NUMBER);
        Check.due("manager", x.manager(0), NUMBER);
        Check.due("held", x.held(0, 0), NUMBER);
        Check.due("witness", x.witness(0, 1, true), NUMBER);
        Check.due("alike", x.alike(0, 1), NUMBER);
        Check.due("group", x.group(0), NUMBER);
        Check.due("the first hull", x.hull(1, 1, 1, 0), 0);
        Check.due("the first paper", x.paper(0, 0, 1, 1, 0), 0);
        Check.due("the first entry", x.sell(0, 0, 1, 1), 0);
        Check.due("the first act", Check.enact(x, "l", 0), 0);
    }

    private static void objectsAreApart() {
        Check.sentence("promise 1", "A new object");
        List<Integer> before = Check.allTold(new HullRegister());
        HullRegister x = some();
        List<Integer> told = Check.allTold(x);
        Check.holds("a new object is empty when others are not", before.equals(Check.allTold(new HullRegister())));
        fillOtherwise(new HullRegister());
        Check.holds("an object stays when another one is filled", told.equals(Check.allTold(x)));
    }

    /** Nothing of it is as in some(). */
    private static void fillOtherwise(HullRegister x) {
        for (int i = 0; i < 5; i++) {
            Check.enact(x, "" + i, 100 * i + 50);
            x.hull(20 + i, 30, 40, 50);
            x.measure(i, 999);
            x.sell(i, 0, 4, 50);
            x.pledge(i, 4, 6, 50);
        }
        for (int i = 0; i < 8; i++) {
            x.paper(5, 5, 9, 9, 9);
        }
        x.witness(0, 1, true);
        x.witness(1, 3, true);
        x.forge(0);
        Check.feed(x, "lb+");
    }

    /** Each argument, the others being good: at both of its bounds it is taken, and outside of them refused. */
    private static void bounds(String name, int refusal, Call call, int[] good, int... leastAndMost) {
        for (int i = 0; i < good.length; i++) {
            int least = leastAndMost[2 * i];
            int most = leastAndMost[2 * i + 1];
            for (int v : new int[] {least, most}) {
                int[] n = good.clone();
                n[i] = v;
                Check.holds(name + Arrays.toString(n) + " isn't refused so", call.on(some(), n) != refusal);
            }
            HullRegister x = some();
            List<Integer> before = Check.allTold(x);
            for (int v : outside(least, most)) {
                int[] n = good.clone();
                n[i] = v;
                Check.due(name + Arrays.toString(n), call.on(x, n), refusal);
            }
            Check.holds(name + " with a wrong number changes nothing", before.equals(Check.allTold(x)));
        }
    }

    private static List<Integer> outside(int least, int most) {
        List<Integer> wrong = new ArrayList<>(List.of(least - 1, most + 1));
        for (int v : FAR) {
            if (v < least || v > most) {
                wrong.add(v);
            }
        }
        return wrong;
    }

    private static int[] good(int... numbers) {
        return numbers;
    }

    private static void wrongNumbersAreRefused() {
        Check.sentence("The constants", "`NUMBER = -1`: A number is none, or none that may be.");
        bounds("act", NUMBER, (x, n) -> x.act(n[0]), good(5), 0, 999);
        bounds("inForce", NUMBER, (x, n) -> x.inForce(n[0]), good(5), 0, 999);
        bounds("hull", NUMBER, (x, n) -> x.hull(n[0], n[1], n[2], n[3]), good(5, 5, 5, 5), 1, 99, 1, 99, 1, 99, 0, 999);
        bounds("alter", NUMBER, (x, n) -> x.alter(n[0], n[1], n[2], n[3], n[4]), good(1, 5, 5, 5, 5),
                0, 2, 1, 99, 1, 99, 1, 99, 0, 999);
        bounds("measure", NUMBER, (x, n) -> x.measure(n[0], n[1]), good(1, 5), 0, 2, 0, 999);
        bounds("sell", NUMBER, (x, n) -> x.sell(n[0], n[1], n[2], n[3]), good(1, 2, 3, 5), 0, 2, 0, 7, 0, 7, 1, 64);
        bounds("pledge", NUMBER, (x, n) -> x.pledge(n[0], n[1], n[2], n[3]), good(1, 2, 3, 5), 0, 2, 0, 7, 0, 7, 1, 64);
        bounds("redeem", NUMBER, (x, n) -> x.redeem(n[0]), good(1), 0, 5);
        bounds("forge", NUMBER, (x, n) -> x.forge(n[0]), good(1), 0, 5);
        bounds("entry", NUMBER, (x, n) -> x.entry(n[0], n[1]), good(1, 2), 0, 5, 0, 8);
        bounds("parts", NUMBER, (x, n) -> x.parts(n[0], n[1], false), good(1, 2), 0, 2, 0, 7);
        bounds("parts, free", NUMBER, (x, n) -> x.parts(n[0], n[1], true), good(1, 2), 0, 2, 0, 7);
        bounds("manager", NUMBER, (x, n) -> x.manager(n[0]), good(1), 0, 2);
        bounds("held", NUMBER, (x, n) -> x.held(n[0], n[1]), good(1, 2), 0, 2, 0, 7);
        bounds("paper", NUMBER, (x, n) -> x.paper(n[0], n[1], n[2], n[3], n[4]), good(0, 999, 1, 99, 5),
                0, 999, 0, 999, 1, 99, 1, 99, 0, 9);
        bounds("witness, yes", NUMBER, (x, n) -> x.witness(n[0], n[1], true), good(1, 3), 0, 4, 0, 4);
        bounds("witness, no", NUMBER, (x, n) -> x.witness(n[0], n[1], false), good(1, 3), 0, 4, 0, 4);
        bounds("alike", NUMBER, (x, n) -> x.alike(n[0], n[1]), good(1, 3), 0, 4, 0, 4);
        bounds("group", NUMBER, (x, n) -> x.group(n[0]), good(1), 0, 4);
        bounds("many", NUMBER, (x, n) -> x.many(n[0]), good(1), 0, 8);
    }

    private static void numbersThatCantBeTold() {
        Check.sentence("The constants", "`NOTHING = -10000000`: What is answered for a number that can't be told.");
        bounds("tons", NOTHING, (x, n) -> x.tons(n[0], n[1], n[2], n[3], n[4]), good(1, 5, 5, 5, 5),
                0, 2, 1, 99, 1, 99, 1, 99, 0, 999);
        bounds("shape", NOTHING, (x, n) -> x.shape(n[0], n[1], n[2]), good(1, 5, 2), 0, 2, 1, 1728, 0, 3);
        bounds("of", NOTHING, (x, n) -> x.of(n[0], n[1]), good(1, 2), 0, 2, 0, 6);
    }

    private static void asManyAsMayBe() {
        Check.sentence("The constants", "`FULL = -2`: There are as many as may be.");
        HullRegister x = full();
        Check.due("feed", x.feed(' '), -2);
        Check.due("act", x.act(0), -2);
        Check.due("hull", x.hull(1, 1, 1, 0), -2);
        Check.due("sell", x.sell(0, 0, 1, 1), -2);
        Check.due("pledge", x.pledge(0, 0, 1, 1), -2);
        Check.due("redeem", x.redeem(1), -2);
        Check.due("paper", x.paper(0, 0, 1, 1, 0), -2);
        Check.due("witness", x.witness(0, 2, true), -2);
        Check.due("what may be altered still", x.alter(4, 1, 1, 1, 0), 1);
        Check.due("what may be measured still", x.measure(4, 999), 1);
        Check.due("what may be forged still", x.forge(59), 1);
    }

    private static void soAlready() {
        Check.sentence("The constants", "`TWICE = -3`: It is so already.");
        HullRegister x = some();
        Check.due("forge", x.forge(5), -3);
        Check.due("witness", x.witness(0, 1, false), -3);
        Check.due("forge of another one", x.forge(4), 1);
        Check.due("witness of two others", x.witness(0, 2, false), 3);
    }

    private static void thereIsNone() {
        Check.sentence("The constants", "`NONE = -4`: There is none.");
        HullRegister x = new HullRegister();
        x.hull(1, 1, 1, 0);
        x.sell(0, 0, 1, 1);
        Check.due("inForce", x.inForce(0), -4);
        Check.due("measure", x.measure(0, 0), -4);
        Check.due("entry, the rank", x.entry(0, 7), -4);
        Check.due("entry, the pledge", x.entry(0, 8), -4);
    }

    private static void anotherKind() {
        Check.sentence("The constants", "`KIND = -5`: A TEXT isn't GOOD, or an ENTRY is another one.");
        HullRegister x = some();
        Check.due("redeem of a sale", x.redeem(0), -5);
        Check.due("redeem of a redeem", x.redeem(3), -5);
        Check.due("act of what is fed", x.act(0), 3);
        Check.due("act of nothing", x.act(0), -5);
        x.feed('+');
        Check.due("act that isn't good", x.act(0), -5);
    }

    /** All that is told, and what calls that change something answer and leave behind. */
    private static List<Integer> toldAndDone(HullRegister x) {
        List<Integer> told = Check.allTold(x);
        told.add(x.act(450));
        told.add(x.scrap());
        told.add(x.feed('r'));
        told.add(x.act(451));
        told.add(x.hull(11, 12, 13, 14));
        told.add(x.measure(0, 450));
        told.add(x.sell(0, 0, 1, 2));
        told.add(x.redeem(2));
        told.add(x.forge(0));
        told.add(x.paper(100, 100, 1, 99, 0));
        told.add(x.witness(0, 3, false));
        told.addAll(Check.allTold(x));
        return told;
    }

    /** A refused call on one of two like registers: they stay alike, whatever is called next. */
    private static void staysAsItWas(String name, boolean filled, int answer, Call call) {
        HullRegister x = filled ? full() : some();
        HullRegister twin = filled ? full() : some();
        for (int i = 0; i < 3; i++) {
            Check.due(name, call.on(x, null), answer);
        }
        Check.holds(name + " changes nothing", toldAndDone(x).equals(toldAndDone(twin)));
    }

    private static void aRefusedCallChangesNothing() {
        Check.sentence("A call that is refused",
                "A call that is refused (answers below 0, where not told otherwise) changes nothing.");
        staysAsItWas("feed when full", true, FULL, (x, n) -> x.feed('b' | '+' << 8));
        staysAsItWas("act of no day", false, NUMBER, (x, n) -> x.act(1000));
        staysAsItWas("act when full", true, FULL, (x, n) -> x.act(5));
        staysAsItWas("inForce of no day", false, NUMBER, (x, n) -> x.inForce(-1));
        staysAsItWas("tons of no act", false, NOTHING, (x, n) -> x.tons(3, 1, 1, 1, 0));
        staysAsItWas("shape of no act", false, NOTHING, (x, n) -> x.shape(3, 1, 0));
        staysAsItWas("hull of no length", false, NUMBER, (x, n) -> x.hull(0, 1, 1, 0));
        staysAsItWas("hull when full", true, FULL, (x, n) -> x.hull(1, 1, 1, 0));
        staysAsItWas("alter to no rooms that may be", false, NUMBER, (x, n) -> x.alter(0, 1, 1, 1, 1000));
        staysAsItWas("alter of no hull", false, NUMBER, (x, n) -> x.alter(3, 1, 1, 1, 1));
        staysAsItWas("measure on no day", false, NUMBER, (x, n) -> x.measure(0, 1000));
        staysAsItWas("measure of no hull", false, NUMBER, (x, n) -> x.measure(3, 5));
        staysAsItWas("of no hull", false, NOTHING, (x, n) -> x.of(3, 4));
        staysAsItWas("sell to itself", false, NUMBER, (x, n) -> x.sell(0, 0, 0, 1));
        staysAsItWas("sell when full", true, FULL, (x, n) -> x.sell(0, 0, 1, 1));
        staysAsItWas("pledge of 65", false, NUMBER, (x, n) -> x.pledge(0, 0, 1, 65));
        staysAsItWas("pledge when full", true, FULL, (x, n) -> x.pledge(0, 0, 1, 1));
        staysAsItWas("redeem of none", false, NUMBER, (x, n) -> x.redeem(6));
        staysAsItWas("redeem of a sale", false, KIND, (x, n) -> x.redeem(0));
        staysAsItWas("redeem when full", true, FULL, (x, n) -> x.redeem(2));
        staysAsItWas("forge of none", false, NUMBER, (x, n) -> x.forge(6));
        staysAsItWas("forge again", false, TWICE, (x, n) -> x.forge(5));
        staysAsItWas("entry of another what", false, NUMBER, (x, n) -> x.entry(0, 9));
        staysAsItWas("rank of none", false, NONE, (x, n) -> x.entry(0, 7));
        staysAsItWas("parts of no person", false, NUMBER, (x, n) -> x.parts(0, 8, true));
        staysAsItWas("manager of no hull", false, NUMBER, (x, n) -> x.manager(3));
        staysAsItWas("held by no person", false, NUMBER, (x, n) -> x.held(0, 8));
        staysAsItWas("paper turned about", false, NUMBER, (x, n) -> x.paper(2, 1, 1, 1, 0));
        staysAsItWas("paper when full", true, FULL, (x, n) -> x.paper(900, 900, 1, 1, 0));
        staysAsItWas("witness of the same", false, NUMBER, (x, n) -> x.witness(2, 2, true));
        staysAsItWas("witness again", false, TWICE, (x, n) -> x.witness(1, 0, true));
        staysAsItWas("witness when full", true, FULL, (x, n) -> x.witness(0, 2, false));
        staysAsItWas("alike of the same", false, NUMBER, (x, n) -> x.alike(2, 2));
        staysAsItWas("group of none", false, NUMBER, (x, n) -> x.group(5));
        staysAsItWas("many of another what", false, NUMBER, (x, n) -> x.many(9));
        refusedForWantOfAnAct();
        refusedForWantOfRoom();
    }

    /** KIND and NONE need a text that isn't good, and a day without an act. */
    private static void refusedForWantOfAnAct() {
        HullRegister x = new HullRegister();
        HullRegister twin = new HullRegister();
        for (HullRegister each : new HullRegister[] {x, twin}) {
            Check.enact(each, "l", 500);
            Check.feed(each, "lb");
            each.hull(7, 8, 9, 0);
            each.measure(0, 600);
        }
        for (int i = 0; i < 3; i++) {
            Check.due("act that isn't good", x.act(5), KIND);
            Check.due("measure without an act", x.measure(0, 499), NONE);
            Check.due("inForce without an act", x.inForce(499), NONE);
        }
        x.feed('-');
        twin.feed('-');
        Check.holds("KIND and NONE change nothing", toldAndDone(x).equals(toldAndDone(twin)));
    }

    /** Which letters are fed is told by an act of them alone. */
    private static void refusedForWantOfRoom() {
        HullRegister x = new HullRegister();
        Check.feed(x, " ".repeat(38) + "l");
        for (int i = 0; i < 3; i++) {
            Check.due("feed of two beyond", x.feed('b' | 'b' << 8), FULL);
            Check.due("many(8)", x.many(8), 39);
        }
        Check.due("feed of a blank", x.feed(' '), 40);
        Check.due("feed of one beyond", x.feed('b'), FULL);
        Check.due("act(0)", x.act(0), 0);
        Check.due("tons", x.tons(0, 9, 4, 1, 0), 9);
    }

    private static void theFirstRefusalNamed() {
        Check.sentence("A call that is refused",
                "Of several refusals that a call names the first one named is answered.");
        HullRegister x = full();
        Check.due("act: NUMBER ahead of FULL", x.act(1000), NUMBER);
        x.scrap();
        Check.due("act: FULL ahead of KIND", x.act(0), FULL);
        Check.due("act: NUMBER ahead of FULL and KIND", x.act(-1), NUMBER);
        Check.due("act: NUMBER ahead of KIND", new HullRegister().act(1000), NUMBER);
        Check.due("inForce: NUMBER ahead of NONE", new HullRegister().inForce(1000), NUMBER);
        Check.due("hull: NUMBER ahead of FULL", x.hull(1, 1, 1, 1000), NUMBER);
        HullRegister y = new HullRegister();
        y.hull(1, 1, 1, 0);
        Check.due("measure: NUMBER of the day ahead of NONE", y.measure(0, 1000), NUMBER);
        Check.due("measure: NUMBER of the hull ahead of NONE", y.measure(1, 0), NUMBER);
        Check.due("sell: NUMBER of the hull ahead of FULL", x.sell(5, 0, 1, 1), NUMBER);
        Check.due("sell: NUMBER of a person ahead of FULL", x.sell(0, 8, 1, 1), NUMBER);
        Check.due("sell: NUMBER of the other ahead of FULL", x.sell(0, 0, 8, 1), NUMBER);
        Check.due("sell: NUMBER of the same ahead of FULL", x.sell(0, 1, 1, 1), NUMBER);
        Check.due("sell: NUMBER of n ahead of FULL", x.sell(0, 0, 1, 0), NUMBER);
        Check.due("pledge: NUMBER of the same ahead of FULL", x.pledge(0, 1, 1, 1), NUMBER);
        Check.due("pledge: NUMBER of n ahead of FULL", x.pledge(0, 0, 1, 65), NUMBER);
        Check.due("redeem: NUMBER ahead of FULL", x.redeem(60), NUMBER);
        Check.due("redeem: KIND of a sale ahead of FULL", x.redeem(0), KIND);
        Check.due("redeem: KIND of a redeem ahead of FULL", x.redeem(3), KIND);
        Check.due("paper: NUMBER ahead of FULL", x.paper(0, 0, 1, 1, 10), NUMBER);
        Check.due("paper: NUMBER of from above to ahead of FULL", x.paper(1, 0, 1, 1, 0), NUMBER);
        Check.due("witness: NUMBER ahead of FULL", x.witness(0, 8, true), NUMBER);
        Check.due("witness: NUMBER of the same ahead of FULL", x.witness(3, 3, true), NUMBER);
        Check.due("witness: TWICE ahead of FULL", x.witness(0, 1, true), TWICE);
        Check.due("witness: TWICE, turned about, ahead of FULL", x.witness(7, 0, true), TWICE);
    }

    private static void theLastOfAllCalls() {
        Check.sentence("## What it is", "An object is used for at most 512 calls after it has been made");
        HullRegister x = new HullRegister();
        x.hull(9, 8, 7, 6);
        for (int call = 2; call < 512; call += 2) {
            Check.due("call " + call, x.feed('l'), 1);
            Check.due("call " + (call + 1), x.scrap(), 1);
        }
        Check.due("call 512", x.sell(0, 0, 1, 64), 0);
    }
}
