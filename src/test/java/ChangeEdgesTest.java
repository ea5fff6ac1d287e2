import java.util.ArrayList;
import java.util.List;
import java.util.function.ToIntFunction;

/**
 * Promises 6 to 10 and what 'Terms' says of MOVES, EVENING, STEPS, MARKS and what can be UNDONE,
 * at the edges: one method for each case that a sentence of the document names.
 */
public final class ChangeEdgesTest {
    private static final int BAD = -1, NO = -2;
    private static final int LOW = Integer.MIN_VALUE, HIGH = Integer.MAX_VALUE;
    private static final int WEIGHT = 3;

    /** One LINK that bears 12 TWELFTHS whatever its WEIGHT: COST is always 116. */
    private static final String ONE = "n2;l0,1,1,1;d0,1,1;";
    /** All by LINK 0 cost 116; as 3 or LINK 1 as 1 half goes by each: 20. */
    private static final String TWO = "n2;l0,1,1,1;l0,1,1,3;d0,1,1;";
    private static final String TWELVE = "n2;" + "l0,1,9,20;".repeat(12) + "d0,1,1;";
    /**
     * 0 to 2 by 1 (LINKS 0, 1) or at once (LINK 2): at once 116, by 1 24, by both 10 + 6 + 6 = 22.
     * WEIGHTS a, b, c and a + 1, b + 1, c + 5 have the same MARK, for 31 * 31 + 31 + 5 is 997.
     */
    private static final String THREE = "n3;l0,1,9,2;l1,2,9,2;l0,2,1,1;d0,2,1;";

    private static final Due due = new Due();

    public static void main(String[] args) {
        moveNumbers();
        moveAsItIs();
        moveAndLeastCost();
        moveToWhatIsTabu();
        evenNumbers();
        evenWantsTwoLinks();
        evenUpTo20();
        evenNoneWouldHaveAnother();
        evenAllTwelve();
        evenAndLeastCost();
        stepNumbers();
        stepsOneByOne();
        stepFirstOfSeveral();
        stepWhereItIsWorse();
        stepWithAllDown();
        sixthAndSeventhMark();
        markTwice();
        markIsWhatCounts();
        belowTheLeastCost();
        leastCostBetweenSteps();
        turnNumbers();
        turnAsItIs();
        turnAllDown();
        turnAndLeastCost();
        sixthAndSeventhChange();
        undoneOneByOne();
        undoneBehindUndone();
        undoneAndRefused();
        due.end("ChangeEdgesTest");
    }

    private static void weights(String why, LoadWeights x, int... want) {
        for (int l = 0; l < want.length; l++) {
            due.is(why + ": WEIGHT of LINK " + l, want[l], x.link(l, WEIGHT));
        }
    }

    private static void tabuOfLink0(String why, LoadWeights x, int from, int to) {
        for (int w = 1; w <= 20; w++) {
            due.is(why + ": tabu(0, " + w + ")", w >= from && w <= to ? 1 : 0, x.tabu(0, w));
        }
    }

    // ---- Promise 6: "WEIGHT of a LINK is w (1 to 20): what it was. BAD; NO: it is so."

    private static void moveNumbers() {
        LoadWeights one = Due.laid(ONE);
        LoadWeights all = Due.laid(TWELVE);
        for (int l : new int[] {LOW, -12, -1, 1, 12, HIGH}) {
            due.is("move(" + l + ", 5) of one LINK", BAD, one.move(l, 5));
        }
        for (int l : new int[] {LOW, -1, 12, 13, HIGH}) {
            due.is("move(" + l + ", 5) of twelve", BAD, all.move(l, 5));
        }
        for (int w : new int[] {LOW, -20, -1, 0, 21, 22, 99, 257, HIGH}) {
            due.is("move(0, " + w + ")", BAD, one.move(0, w));
        }
        due.is("move: nothing changed", 0, one.count(9) + all.count(9));
        weights("move: nothing changed", one, 1);
        due.is("move of the first", 20, all.move(0, 1));
        due.is("move of the last", 20, all.move(11, 19));
        weights("move", all, 1, 20, 20, 20, 20, 20, 20, 20, 20, 20, 20, 19);
        int was = 1;
        for (int w = 20; w >= 1; w--) {
            due.is("move(0, " + w + ")", was, one.move(0, w));
            weights("move", one, w);
            was = w;
        }
    }

    private static void moveAsItIs() {
        LoadWeights x = Due.laid(TWO);
        due.is("as it is: 1", NO, x.move(0, 1));
        due.is("as it is: 3", NO, x.move(1, 3));
        x.move(0, 20);
        due.is("as it is: 20", NO, x.move(0, 20));
        x.turn(0, 0);
        due.is("as it is: DOWN", NO, x.move(0, 20));
        due.is("as it is: no changes but two", 2, x.count(9));
        due.is("not as it is: DOWN", 20, x.move(0, 1));
        due.is("BAD ahead of NO", BAD, x.move(2, 1));
    }

    private static void moveAndLeastCost() {
        LoadWeights x = Due.laid(TWO);
        due.is("LEAST COST of LAID", 116, x.count(6));
        x.move(1, 4);
        due.is("LEAST COST: as much", 116, x.count(6));
        x.move(1, 1);
        due.is("LEAST COST: less", 20, x.count(6));
        x.move(1, 2);
        due.is("LEAST COST: more", 20, x.count(6));
        due.is("COST is more", 116, x.cost());
        due.is("a MOVE has no MARK become TABU", 0, x.count(8));
    }

    private static void moveToWhatIsTabu() {
        LoadWeights x = Due.laid(ONE);
        x.step(1);
        due.is("it is TABU", 1, x.tabu(0, 1));
        due.is("a MOVE may go there", 2, x.move(0, 1));
        weights("a MOVE may go there", x, 1);
        due.is("TABU as ahead", 1, x.count(8));
    }

    // ---- Promise 7: "BAD; NO: x is t, it has no two such LINKS, one would be above 20, none would have another."

    private static void evenNumbers() {
        LoadWeights two = Due.laid(TWO);
        LoadWeights seven = Due.laid("n7;l0,6,1,1;l0,6,1,2;l6,5,1,3;l6,5,1,3;d0,6,1;");
        for (int x : new int[] {LOW, -1, 2, 7, HIGH}) {
            due.is("even(" + x + ", 1) of two", BAD, two.even(x, 1));
            due.is("even(0, " + x + ") of two", BAD, two.even(0, x));
            due.is("even(" + x + ", " + x + ") of two: BAD ahead of NO", BAD, two.even(x, x));
        }
        for (int x : new int[] {LOW, -1, 7, HIGH}) {
            due.is("even(" + x + ", 6) of seven", BAD, seven.even(x, 6));
            due.is("even(0, " + x + ") of seven", BAD, seven.even(0, x));
        }
        for (int x = 0; x < 7; x++) {
            due.is("even: x is t", NO, seven.even(x, x));
        }
        due.is("even: nothing changed", 0, two.count(9) + seven.count(9));
        due.is("even(0, 6)", 1, seven.even(0, 6));
        due.is("even(6, 5)", 2, seven.even(6, 5));
        due.is("even(0, 1)", 1, two.even(0, 1));
        weights("even(0, 1)", two, 1, 1);
    }

    private static void evenWantsTwoLinks() {
        String text = "n5;l0,1,9,5;l0,2,9,6;l0,3,9,7;l1,4,9,1;l2,4,9,1;d0,4,1;";
        LoadWeights x = Due.laid(text);
        due.is("even: no LINK leads from it", NO, x.even(4, 0));
        due.is("even: one LINK leads from it", NO, x.even(1, 4));
        due.is("even: of three, two end where there is a way", 2, x.even(0, 4));
        weights("even: the third is left", x, 1, 1, 7, 1, 1);
        LoadWeights down = Due.laid(text);
        down.turn(1, 0);
        due.is("even: of these two, one is DOWN", NO, down.even(0, 4));
        down.turn(1, 1);
        down.turn(4, 0);
        due.is("even: of these two, one has no way from its end", NO, down.even(0, 4));
        due.is("even: one ends in t, two elsewhere", NO, down.even(0, 1));
        due.is("even: nothing changed", 3, down.count(9));
        weights("even: nothing changed", down, 5, 6, 7, 1, 1);
        LoadWeights t = Due.laid("n3;l0,1,9,5;l0,2,9,6;l1,2,9,4;d0,2,1;");
        due.is("even: an end that is t has a way", 2, t.even(0, 2));
        weights("even: t is 0 FAR", t, 1, 5, 4);
    }

    private static void evenUpTo20() {
        // FAR of 1 from 2 is its LINK's WEIGHT; LINK 0 would be 1, LINK 1 that WEIGHT and 1.
        for (int w = 1; w <= 20; w++) {
            LoadWeights x = Due.laid("n3;l0,1,9,3;l0,2,9,1;l1,2,9," + w + ";d0,2,1;");
            due.is("even: FAR of 1 is " + w, w < 20 ? 2 : NO, x.even(0, 2));
            weights("even: FAR of 1 is " + w, x, w < 20 ? 1 : 3, w < 20 ? w + 1 : 1, w);
            due.is("even: a change, if it is done", w < 20 ? 1 : 0, x.count(9));
        }
        // G is 20: LINKS to 1, 2 and 3 would be 1, 2 and 21.
        LoadWeights three = Due.laid("n4;l0,1,9,3;l0,2,9,3;l0,3,9,3;l1,3,9,20;l2,3,9,19;d0,3,1;");
        due.is("even: one of three above 20", NO, three.even(0, 3));
        weights("even: none of them changed", three, 3, 3, 3, 20, 19);
        three.turn(2, 0);
        due.is("even: not if that one is DOWN", 2, three.even(0, 3));
        weights("even: the two others", three, 1, 2, 3, 20, 19);
        // FAR of 1 is 100: LINK 0 would be 101.
        LoadWeights row = Due.laid("n7;l0,6,9,9;l0,1,9,9;l1,2,9,20;l2,3,9,20;l3,4,9,20;l4,5,9,20;l5,6,9,20;d0,6,1;");
        due.is("even: FAR above 20", NO, row.even(0, 6));
    }

    private static void evenNoneWouldHaveAnother() {
        LoadWeights x = Due.laid("n3;l0,1,9,1;l0,2,9,5;l1,2,9,4;d0,2,1;");
        due.is("even: as it would be", NO, x.even(0, 2));
        due.is("even: no change", 0, x.count(9));
        x.move(1, 4);
        due.is("even: one would have another", 1, x.even(0, 2));
        weights("even: one would have another", x, 1, 5, 4);
        due.is("even: again", NO, x.even(0, 2));
        due.is("even: two changes", 2, x.count(9));
    }

    private static void evenAllTwelve() {
        LoadWeights x = Due.laid(TWELVE);
        due.is("even: twelve", 12, x.even(0, 1));
        weights("even: twelve", x, 1, 1, 1, 1, 1, 1, 1, 1, 1, 1, 1, 1);
        due.is("even: a way back is none to 0", NO, x.even(1, 0));
    }

    private static void evenAndLeastCost() {
        LoadWeights x = Due.laid(TWO);
        x.even(0, 1);
        due.is("even: the LEAST COST is less", 20, x.count(6));
        due.is("even: no MARK becomes TABU", 0, x.count(8));
        // Even for 2 spoils what was even for 1: COST is more, the LEAST COST stays.
        LoadWeights y = Due.laid("n3;l0,1,1,1;l0,2,9,1;l2,1,9,1;l1,2,9,1;d0,1,1;");
        y.move(0, 2);
        due.is("even: 6 by LINK 0, 6 by 2", 10 + 6 + 6, y.count(6));
        due.is("even(0, 2)", 2, y.even(0, 2));
        weights("even(0, 2)", y, 1, 2, 1, 1);
        due.is("even: COST is more", 116, y.cost());
        due.is("even: the LEAST COST stays", 22, y.count(6));
    }

    // ---- Promise 8: "n STEPS (1 to 3) .. BAD"

    private static void stepNumbers() {
        LoadWeights x = Due.laid(ONE);
        for (int n : new int[] {LOW, -3, -1, 0, 4, 5, 257, HIGH}) {
            due.is("step(" + n + ")", BAD, x.step(n));
        }
        due.is("step: no change", 0, x.count(9));
        due.is("step: no MARK", 0, x.count(8));
        weights("step: nothing changed", x, 1);
        for (int n = 1; n <= 3; n++) {
            LoadWeights y = Due.laid(ONE);
            due.is("step(" + n + ")", 116, y.step(n));
            weights("step(" + n + ")", y, n + 1);
            due.is("step(" + n + "): MARKS", n, y.count(8));
            due.is("step(" + n + "): one change", 1, y.count(9));
            due.is("step(" + n + "): UNDONE at once", 0, y.undo());
            weights("step(" + n + "): UNDONE at once", y, 1);
            due.is("step(" + n + "): no MARKS then", 0, y.count(8));
        }
    }

    /** Three STEPS of one call go where three calls go, only that they are one change. */
    private static void stepsOneByOne() {
        for (String text : new String[] {ONE, TWO, THREE, "n2;l0,1,1,8;l0,1,1,4;l1,0,2,1;d0,1,1;d1,0,3;"}) {
            LoadWeights once = Due.laid(text);
            LoadWeights each = Due.laid(text);
            for (int call = 1; call <= 3; call++) {
                int cost = 0;
                for (int i = 0; i < 3; i++) {
                    cost = each.step(1);
                }
                due.is("step(3) of " + text, cost, once.step(3));
                due.is("step(3): so many changes", call, once.count(9));
                due.is("step(1) thrice: so many changes", Math.min(6, 3 * call), each.count(9));
                due.is("MARKS", Math.min(6, 3 * call), once.count(8));
                Asked.same(due, "step(3) of " + text, each, once, "count(9)");
            }
        }
    }

    // ---- 'Terms': "of several the first (by LINK, then WEIGHT)"

    private static void stepFirstOfSeveral() {
        LoadWeights x = Due.laid("n2;" + "l0,1,1,20;".repeat(3) + "d0,1,1;");
        due.is("all MOVES of a LINK down are 116, none up", 12, x.cost());
        // One of three lower bears all. None can be raised above 20, so each MOVE costs 116.
        due.is("first of several", 116, x.step(1));
        weights("by LINK, then WEIGHT", x, 1, 20, 20);
        LoadWeights y = Due.laid("n2;l0,1,1,1;l0,1,1,2;l0,1,1,2;d0,1,1;");
        // LINK 0 as 2 has a third go by each: 12. LINKS 1, 2 as 1 have halves: 20.
        due.is("the least COST is ahead of the first LINK's first WEIGHT", 12, y.step(1));
        weights("LINK 0 as 2", y, 2, 2, 2);
        LoadWeights z = Due.laid("n2;l0,1,9,1;l0,1,1,1;l0,1,1,3;d0,1,5;");
        due.is("30 by LINK 0, 30 by LINK 1", 30 + 116 + 18 * 500, z.cost());
        // LINK 1 as 2 to 20 leaves all, 60 TWELFTHS, to LINK 0: 36 + 24 * 3. LINK 2 as 1: 20 by each.
        due.is("LINK 1, its lowest WEIGHT that does it", 108, z.step(1));
        weights("LINK 1 as 2", z, 1, 2, 3);
    }

    // ---- 'Terms': "that of the least COST (be it more than now)"

    private static void stepWhereItIsWorse() {
        LoadWeights x = Due.laid("n2;l0,1,1,1;l0,1,1,1;d0,1,1;");
        due.is("now", 20, x.cost());
        due.is("worse, and done", 116, x.step(1));
        weights("worse", x, 2, 1);
        due.is("worse: the LEAST COST stays", 20, x.count(6));
        due.is("worse: a change", 1, x.count(9));
        // Back to 1, 1 would be 20, but it is TABU and 20 is not below 20; LINK 1 as 2 is 20 too.
        due.is("not back", 20, x.step(1));
        weights("not back", x, 2, 2);
    }

    private static void stepWithAllDown() {
        LoadWeights x = Due.laid(TWO);
        x.turn(0, 0);
        x.turn(1, 0);
        due.is("all DOWN: COST stays", 12000, x.step(2));
        // LINK 0 as 2 is first, then LINK 0 as 1 is TABU: as 3.
        weights("all DOWN: MOVES of LINKS that are DOWN", x, 3, 3);
        due.is("all DOWN: MARKS", 2, x.count(8));
    }

    // ---- 'Terms': "TABU are the last 6 MARKS that became so (at first none ..)"

    private static void sixthAndSeventhMark() {
        LoadWeights x = Due.laid(ONE);
        tabuOfLink0("at first none", x, 1, 0);
        for (int done = 1; done <= 6; done++) {
            x.step(1);
            weights("STEP " + done, x, done + 1);
            tabuOfLink0("MARK " + done, x, 1, done);
            due.is("MARKS", done, x.count(8));
        }
        x.step(1);
        weights("STEP 7", x, 8);
        tabuOfLink0("the seventh MARK puts out the first", x, 2, 7);
        due.is("six MARKS", 6, x.count(8));
        x.step(1);
        weights("STEP 8: what is TABU no more", x, 1);
        tabuOfLink0("the eighth puts out the second", x, 3, 8);
        due.is("six MARKS still", 6, x.count(8));
    }

    // ---- 'Terms': "one that is so already counts once more"

    private static void markTwice() {
        LoadWeights x = Due.laid(ONE);
        for (int i = 1; i <= 7; i++) {
            x.step(1);
            weights("from 1 to the lowest that is free", x, 2);
            due.is("the same MARK " + i + " times", Math.min(i, 6), x.count(8));
            tabuOfLink0("the same MARK " + i + " times", x, 1, 1);
            x.move(0, 1);
        }
        // All six places are that MARK: six others put it out, no five.
        x.move(0, 2);
        for (int i = 1; i <= 5; i++) {
            x.step(1);
            due.is("TABU still", 1, x.tabu(0, 1));
        }
        weights("five on", x, 7);
        x.step(1);
        due.is("TABU no more", 0, x.tabu(0, 1));
        tabuOfLink0("the six others are", x, 2, 7);
    }

    /** Not the WEIGHTS are TABU but their MARK: others that have the same one are so too. */
    private static void markIsWhatCounts() {
        LoadWeights x = Due.laid(THREE);
        due.is("all at once", 116, x.cost());
        due.is("by both", 22, x.step(1));
        weights("by both", x, 2, 2, 4);
        x.move(0, 3);
        x.move(1, 3);
        x.move(2, 1);
        due.is("3, 3, 6 was never tried but has the MARK of 2, 2, 1", 1, x.tabu(2, 6));
        due.is("3, 3, 5 has not", 0, x.tabu(2, 5));
        due.is("3, 3, 7 has not", 0, x.tabu(2, 7));
        due.is("the best of all is that", 6, x.best(1));
        due.is("as little as the LEAST COST, not below", x.count(6), x.best(2));
        due.is("so a STEP goes elsewhere", 24, x.step(1));
        weights("LINK 2 as 7", x, 3, 3, 7);
    }

    // ---- 'Terms': "or by which COST is below the LEAST COST"

    private static void belowTheLeastCost() {
        LoadWeights x = Due.laid(THREE);
        x.turn(0, 0);
        due.is("all at once, whatever the WEIGHTS", 116, x.step(1));
        weights("LINK 0 is first", x, 1, 2, 1);
        x.turn(0, 1);
        x.move(0, 3);
        x.move(1, 3);
        due.is("the LEAST COST", 116, x.count(6));
        due.is("3, 3, 6 is TABU", 1, x.tabu(2, 6));
        due.is("below the LEAST COST, so it is done", 22, x.step(1));
        weights("LINK 2 as 6", x, 3, 3, 6);
        due.is("the LEAST COST then", 22, x.count(6));
        due.is("two MARKS", 2, x.count(8));
    }

    // ---- 'Terms': "The LEAST COST: the least that COST was behind LAID, a MOVE, EVENING, a STEP."

    private static void leastCostBetweenSteps() {
        LoadWeights x = Due.laid(TWO);
        due.is("20, then 116", 116, x.step(2));
        due.is("behind the first STEP it was 20", 20, x.count(6));
        x.undo();
        due.is("UNDONE it is as it was", 116, x.count(6));
        due.is("20, 116, 20", 20, x.step(3));
        due.is("behind three", 20, x.count(6));
    }

    // ---- Promise 9: "A LINK is UP (is = 1), DOWN (0): COST then. BAD; NO: it is so."

    private static void turnNumbers() {
        LoadWeights one = Due.laid(ONE);
        LoadWeights all = Due.laid(TWELVE);
        for (int l : new int[] {LOW, -1, 1, 12, HIGH}) {
            due.is("turn(" + l + ", 0) of one LINK", BAD, one.turn(l, 0));
            due.is("turn(" + l + ", 1) of one LINK: BAD ahead of NO", BAD, one.turn(l, 1));
        }
        for (int is : new int[] {LOW, -2, -1, 2, 3, 256, HIGH}) {
            due.is("turn(0, " + is + ")", BAD, one.turn(0, is));
        }
        due.is("turn(-1, 0) of twelve", BAD, all.turn(-1, 0));
        due.is("turn(12, 0) of twelve", BAD, all.turn(12, 0));
        due.is("turn: no change", 0, one.count(9) + all.count(9));
        due.is("turn: none is DOWN", 0, one.count(3) + all.count(3));
        due.is("turn(11, 0) of twelve", 12, all.turn(11, 0));
        due.is("turn: the last is DOWN", 0, all.link(11, 4));
        due.is("turn(0, 0) of twelve", 12, all.turn(0, 0));
        due.is("turn: two are DOWN", 2, all.count(3));
    }

    private static void turnAsItIs() {
        LoadWeights x = Due.laid(ONE);
        due.is("it is UP", NO, x.turn(0, 1));
        due.is("DOWN", 12000, x.turn(0, 0));
        due.is("it is DOWN", NO, x.turn(0, 0));
        due.is("BAD ahead of NO", BAD, x.turn(0, 2));
        due.is("UP", 116, x.turn(0, 1));
        due.is("it is UP again", NO, x.turn(0, 1));
        due.is("two changes", 2, x.count(9));
        due.is("no MARK", 0, x.count(8));
    }

    private static void turnAllDown() {
        LoadWeights x = Due.laid("n2;" + "l0,1,1,1;".repeat(12) + "d0,1,99;d0,1,1;d1,0,5;");
        for (int l = 0; l < 11; l++) {
            x.turn(l, 0);
            due.is("DOWN are", l + 1, x.count(3));
            due.is("LOST is one", 1, x.count(4));
        }
        due.is("the last bears all", 12000 * 5 + 116 + (1200 - 12) * 500, x.cost());
        due.is("all DOWN, all LOST", 12000 * 105, x.turn(11, 0));
        due.is("LOST are", 3, x.count(4));
        due.is("full is none", 0, x.count(5));
        due.is("one is UP", 12000 * 5 + 116 + (1200 - 12) * 500, x.turn(0, 1));
    }

    private static void turnAndLeastCost() {
        LoadWeights x = Due.laid("n3;l0,1,1,1;l0,2,9,1;l2,1,9,1;d0,1,1;");
        due.is("DOWN, COST falls", 24, x.turn(0, 0));
        due.is("the LEAST COST does not", 116, x.count(6));
        due.is("UP, it rises", 116, x.turn(0, 1));
        due.is("the LEAST COST stays", 116, x.count(6));
        x.turn(0, 0);
        due.is("a STEP behind it", 24, x.step(1));
        due.is("is what the LEAST COST heeds", 24, x.count(6));
    }

    // ---- Promise 10: "UNDONE: how many more can be. NO."; 'Terms': "the last 6 can be"

    private static void sixthAndSeventhChange() {
        for (int changes = 0; changes <= 14; changes++) {
            LoadWeights x = Due.laid(ONE);
            for (int i = 1; i <= changes; i++) {
                x.move(0, 1 + i);
                due.is("can be UNDONE", Math.min(i, 6), x.count(9));
            }
            int can = Math.min(changes, 6);
            for (int i = 1; i <= can; i++) {
                due.is("undo() " + i + " of " + changes, can - i, x.undo());
                weights("undo() " + i + " of " + changes, x, 1 + changes - i);
                due.is("can be UNDONE then", can - i, x.count(9));
            }
            due.is("no more of " + changes, NO, x.undo());
            due.is("no more again", NO, x.undo());
            weights("as it was ahead of the last six", x, 1 + changes - can);
        }
    }

    private static List<ToIntFunction<LoadWeights>> mixedChanges() {
        List<ToIntFunction<LoadWeights>> changes = new ArrayList<>();
        changes.add(x -> x.step(3));
        changes.add(x -> x.turn(1, 0));
        changes.add(x -> x.step(2));
        changes.add(x -> x.move(2, 17));
        changes.add(x -> x.turn(1, 1));
        changes.add(x -> x.even(0, 2));
        changes.add(x -> x.step(3));
        changes.add(x -> x.step(1));
        changes.add(x -> x.turn(2, 0));
        changes.add(x -> x.move(0, 20));
        changes.add(x -> x.step(3));
        changes.add(x -> x.step(3));
        return changes;
    }

    private static LoadWeights mixed(int changes) {
        LoadWeights x = Due.laid(THREE);
        for (int i = 0; i < changes; i++) {
            due.is("change " + i + " is not refused", 1, mixedChanges().get(i).applyAsInt(x) >= 0 ? 1 : 0);
        }
        return x;
    }

    /** What is UNDONE is as if it had never been: WEIGHTS, UP and DOWN, MARKS, the LEAST COST, and the STEPS from there. */
    private static void undoneOneByOne() {
        int most = mixedChanges().size();
        for (int changes = 1; changes <= most; changes++) {
            for (int undone = 1; undone <= Math.min(6, changes); undone++) {
                LoadWeights want = mixed(changes - undone);
                LoadWeights got = mixed(changes);
                for (int i = 1; i <= undone; i++) {
                    due.is("undo()", Math.min(6, changes) - i, got.undo());
                }
                String why = undone + " of " + changes + " UNDONE";
                Asked.same(due, why, want, got, "count(9)");
                due.is(why + ": STEPS from there", want.step(3), got.step(3));
                due.is(why + ": their MARK", want.count(7), got.count(7));
                for (int w = 1; w <= 20; w++) {
                    due.is(why + ": tabu(1, " + w + ") then", want.tabu(1, w), got.tabu(1, w));
                }
            }
        }
    }

    private static void undoneBehindUndone() {
        LoadWeights x = Due.laid(ONE);
        for (int w = 2; w <= 9; w++) {
            x.move(0, w);
        }
        x.undo();
        x.undo();
        x.undo();
        weights("three UNDONE", x, 6);
        due.is("three more", 3, x.count(9));
        for (int w = 11; w <= 14; w++) {
            x.move(0, w);
        }
        due.is("and four are six", 6, x.count(9));
        int[] then = {13, 12, 11, 6, 5, 4};
        for (int i = 0; i < 6; i++) {
            due.is("undo() " + i, 5 - i, x.undo());
            weights("undo() " + i, x, then[i]);
        }
        due.is("no more", NO, x.undo());
        due.is("what is UNDONE does not come back", NO, x.undo());
    }

    private static void undoneAndRefused() {
        LoadWeights x = Due.laid(TWO);
        x.move(0, 3);
        x.move(0, 3);
        x.move(0, 0);
        x.turn(0, 1);
        x.even(1, 0);
        x.even(0, 0);
        x.step(0);
        x.step(4);
        x.write(0);
        x.count(11);
        x.best(0);
        x.worst(0);
        x.rescue(0, 0);
        due.is("what is refused or asked is no change", 1, x.count(9));
        due.is("nor are letters", 1, x.write('x') - x.count(10) + x.count(9));
        due.is("undo()", 0, x.undo());
        weights("undo()", x, 1, 3);
        due.is("THE TEXT stays as it is", TWO.length() + 1, x.count(10));
    }
}
