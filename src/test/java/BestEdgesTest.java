/**
 * Promises 16 to 18 and what 'Terms' says of the BEST MOVE, the WORST FAILURE and RESCUE,
 * at the edges: one method for each case that a sentence of the document names.
 */
public final class BestEdgesTest {
    private static final int BAD = -1, NO = -2, NONE = -4;
    private static final int LOW = Integer.MIN_VALUE, HIGH = Integer.MAX_VALUE;

    private static final String ONE = "n2;l0,1,1,1;d0,1,1;";
    /** At once (LINK 0, ROOM 1) 116; by 2 (LINKS 1, 2) 24; half by each 22. */
    private static final String ROUND = "n3;l0,1,1,1;l0,2,9,1;l2,1,9,1;d0,1,1;";

    private static final Due due = new Due();

    public static void main(String[] args) {
        bestNumbers();
        bestOfOneLink();
        bestFirstOfSeveral();
        bestByTheLeastWeight();
        bestByTheGreatestWeight();
        bestByTheLastLink();
        bestToTheFirstAndTheLastNode();
        bestBeItTabu();
        bestBeItWorse();
        bestWithAllDown();
        worstNumbers();
        worstNoneIsUp();
        worstLowestOfSeveral();
        worstOfThoseThatAreUp();
        worstThatIsBetter();
        rescueNumbers();
        rescueOfOneThatIsDown();
        rescueOfTheOnlyOne();
        rescueNotLess();
        rescueFirstOfSeveral();
        rescueAtTheWeightsEnds();
        rescueByAnother();
        rescueOfWhatIsLost();
        rescueBeItTabu();
        due.end("BestEdgesTest");
    }

    private static void best(String why, LoadWeights x, int link, int weight, int cost) {
        due.is(why + ": best(0)", link, x.best(0));
        due.is(why + ": best(1)", weight, x.best(1));
        due.is(why + ": best(2)", cost, x.best(2));
    }

    private static void worst(String why, LoadWeights x, int link, int cost) {
        due.is(why + ": worst(0)", link, x.worst(0));
        due.is(why + ": worst(1)", cost, x.worst(1));
    }

    private static void rescue(String why, LoadWeights x, int l, int link, int weight, int cost) {
        due.is(why + ": rescue(" + l + ", 0)", link, x.rescue(l, 0));
        due.is(why + ": rescue(" + l + ", 1)", weight, x.rescue(l, 1));
        due.is(why + ": rescue(" + l + ", 2)", cost, x.rescue(l, 2));
    }

    // ---- Promise 16: "BEST MOVE: the LINK (what = 0), its WEIGHT (1), COST then (2). BAD."

    private static void bestNumbers() {
        LoadWeights x = Due.laid(ROUND);
        for (int what : new int[] {LOW, -1, 3, 4, 256, HIGH}) {
            due.is("best(" + what + ")", BAD, x.best(what));
        }
        best("LINK 0 as 2 has half go by each", x, 0, 2, 22);
        due.is("asked, not done", 1, x.link(0, 3));
        due.is("asked: no change", 0, x.count(9));
        due.is("asked: the LEAST COST stays", 116, x.count(6));
    }

    /** A MOVE is not to the WEIGHT as it is: 1 comes first, 2 where 1 is. */
    private static void bestOfOneLink() {
        LoadWeights x = Due.laid(ONE);
        best("one LINK as 1", x, 0, 2, 116);
        x.move(0, 2);
        best("one LINK as 2", x, 0, 1, 116);
        x.move(0, 20);
        best("one LINK as 20", x, 0, 1, 116);
    }

    private static void bestFirstOfSeveral() {
        best("by LINK", Due.laid("n2;l0,1,1,1;l0,1,1,3;d0,1,1;"), 0, 3, 20);
        best("by LINK, told the other way round", Due.laid("n2;l0,1,1,3;l0,1,1,1;d0,1,1;"), 0, 1, 20);
        // 48 TWELFTHS at once: 18116; half by 1: 6164; LINK 2 as 3 to 20 has all go by 1: 36 + 12 * 3 for each LINK.
        best("then by WEIGHT", Due.laid("n3;l0,1,9,1;l1,2,9,1;l0,2,1,1;d0,2,4;"), 2, 3, 144);
    }

    private static void bestByTheLeastWeight() {
        // LINK 0 as 1 makes 1 + 4 as short as 5.
        best("as 1", Due.laid("n3;l0,1,9,5;l1,2,9,4;l0,2,1,5;d0,2,1;"), 0, 1, 22);
    }

    private static void bestByTheGreatestWeight() {
        best("as 20, as short as 5 + 15", Due.laid("n3;l0,2,1,2;l0,1,9,5;l1,2,9,15;d0,2,1;"), 0, 20, 22);
        best("21 is no WEIGHT", Due.laid("n3;l0,2,1,2;l0,1,9,6;l1,2,9,15;d0,2,1;"), 0, 1, 116);
    }

    private static void bestByTheLastLink() {
        best("LINK 11", Due.laid("n4;" + "l3,0,9,1;".repeat(9) + "l0,1,9,1;l1,2,9,1;l0,2,1,1;d0,2,1;"), 11, 2, 22);
    }

    private static void bestToTheFirstAndTheLastNode() {
        best("to NODE 0, as 9", Due.laid("n3;l2,0,1,2;l2,1,9,4;l1,0,9,5;d2,0,1;"), 0, 9, 22);
        best("to NODE 6, as 9", Due.laid("n7;l5,6,1,2;l5,0,9,4;l0,6,9,5;d5,6,1;"), 0, 9, 22);
        LoadWeights both = Due.laid("n7;l3,4,9,1;l6,0,1,2;l6,5,9,4;l5,0,9,5;l0,6,9,1;d6,0,1;d0,6,1;");
        best("to both, all MOVES of LINK 0 for nothing", both, 1, 9, 22 + 12);
    }

    /** "of all MOVES, TABU or not" */
    private static void bestBeItTabu() {
        LoadWeights x = Due.laid(ROUND);
        due.is("to 2, 1, 1 and on to 3, 1, 1", 24, x.step(2));
        due.is("2, 1, 1 is TABU", 1, x.tabu(0, 2));
        due.is("and as good as the LEAST COST", 22, x.count(6));
        best("TABU or not", x, 0, 2, 22);
        due.is("a STEP goes elsewhere", 22, x.step(1));
        due.is("LINK 1", 2, x.link(1, 3));
    }

    private static void bestBeItWorse() {
        LoadWeights x = Due.laid("n2;l0,1,1,1;l0,1,1,1;d0,1,1;");
        due.is("now", 20, x.cost());
        best("worse than now", x, 0, 2, 116);
    }

    private static void bestWithAllDown() {
        LoadWeights x = Due.laid(ROUND);
        x.turn(0, 0);
        best("a LINK that is DOWN is first", x, 0, 2, 24);
        x.turn(1, 0);
        x.turn(2, 0);
        best("all DOWN", x, 0, 2, 12000);
        x.move(0, 2);
        best("all DOWN, LINK 0 as 2", x, 0, 1, 12000);
    }

    // ---- Promise 17: "WORST FAILURE: the LINK (what = 0), COST then (1). BAD; NONE: none is UP."

    private static void worstNumbers() {
        LoadWeights x = Due.laid(ROUND);
        for (int what : new int[] {LOW, -1, 2, 3, 256, HIGH}) {
            due.is("worst(" + what + ")", BAD, x.worst(what));
        }
        worst("LINK 0 DOWN would be better, LINK 1 as now", x, 1, 116);
        due.is("asked: none is DOWN", 0, x.count(3));
        due.is("asked: no change", 0, x.count(9));
    }

    private static void worstNoneIsUp() {
        LoadWeights x = Due.laid("n2;l0,1,9,1;l0,1,9,1;d0,1,1;");
        x.turn(0, 0);
        worst("one is UP", x, 1, 12000);
        x.turn(1, 0);
        worst("none is UP", x, NONE, NONE);
        due.is("BAD ahead of NONE", BAD, x.worst(2));
        due.is("BAD ahead of NONE", BAD, x.worst(-1));
        x.turn(0, 1);
        worst("one is UP again", x, 0, 12000);
    }

    private static void worstLowestOfSeveral() {
        worst("both are the worst", Due.laid("n3;l0,1,9,1;l1,2,9,1;d0,2,1;"), 0, 12000);
        worst("LINK 0 is none of them", Due.laid("n4;l3,0,9,1;l0,1,9,1;l1,2,9,1;d0,2,1;"), 1, 12000);
        worst("all are", Due.laid("n2;" + "l0,1,9,1;".repeat(12) + "d0,1,1;"), 0, 12);
        worst("the last alone", Due.laid("n3;" + "l0,1,9,1;".repeat(11) + "l1,2,9,1;d0,2,1;"), 11, 12000);
    }

    private static void worstOfThoseThatAreUp() {
        LoadWeights x = Due.laid("n2;" + "l0,1,9,1;".repeat(3) + "d0,1,1;");
        x.turn(0, 0);
        worst("not LINK 0", x, 1, 12);
        x.turn(1, 0);
        worst("LINK 2 alone", x, 2, 12000);
    }

    /** COST without any one LINK may be less than now: the worst is the most of these all the same. */
    private static void worstThatIsBetter() {
        LoadWeights x = Due.laid("n4;l0,1,1,1;l1,2,1,1;l2,3,1,1;d0,3,99;");
        due.is("now", 3 * (116 + 1176 * 500), x.cost());
        worst("LOST is less", x, 0, 1188000);
    }

    // ---- Promise 18: "RESCUE for a LINK: the other LINK (what = 0), its WEIGHT (1), COST then (2). BAD; NO: it is DOWN; NONE."

    private static void rescueNumbers() {
        LoadWeights x = Due.laid("n2;l0,1,9,1;l0,1,1,2;l0,1,1,3;d0,1,1;");
        for (int l : new int[] {LOW, -1, 3, 12, HIGH}) {
            due.is("rescue(" + l + ", 0)", BAD, x.rescue(l, 0));
        }
        for (int what : new int[] {LOW, -1, 3, 4, 256, HIGH}) {
            due.is("rescue(0, " + what + ")", BAD, x.rescue(0, what));
        }
        rescue("LINK 1 as 3", x, 0, 1, 3, 20);
        due.is("asked: it is UP", 1, x.link(0, 4));
        due.is("asked: its WEIGHT stays", 2, x.link(1, 3));
        due.is("asked: no change", 0, x.count(9));
        due.is("asked: the LEAST COST stays", 12, x.count(6));
    }

    private static void rescueOfOneThatIsDown() {
        LoadWeights x = Due.laid("n2;l0,1,9,1;l0,1,1,2;l0,1,1,3;d0,1,1;");
        x.turn(0, 0);
        rescue("it is DOWN", x, 0, NO, NO, NO);
        due.is("BAD ahead of NO", BAD, x.rescue(0, 3));
        due.is("BAD ahead of NO", BAD, x.rescue(0, -1));
        x.turn(0, 1);
        rescue("it is UP", x, 0, 1, 3, 20);
        LoadWeights one = Due.laid(ONE);
        one.turn(0, 0);
        rescue("NO ahead of NONE", one, 0, NO, NO, NO);
    }

    private static void rescueOfTheOnlyOne() {
        LoadWeights x = Due.laid(ONE);
        rescue("there is no other", x, 0, NONE, NONE, NONE);
        due.is("BAD ahead of NONE", BAD, x.rescue(0, 3));
        due.is("BAD ahead of NONE", BAD, x.rescue(1, 0));
    }

    /** "none, if COST is not less by it than without" */
    private static void rescueNotLess() {
        rescue("as much", Due.laid("n2;l0,1,9,1;l0,1,9,1;d0,1,1;"), 0, NONE, NONE, NONE);
        // Without LINK 2 halves go by 0 and 1: 20; each MOVE makes it more.
        rescue("more", Due.laid("n2;l0,1,1,1;l0,1,1,1;l0,1,9,2;d0,1,1;"), 2, NONE, NONE, NONE);
        // Less than now it would be, but not by the MOVE: LINK 0 DOWN is 24 already, 116 now.
        rescue("less by the failure alone", Due.laid(ROUND), 0, NONE, NONE, NONE);
    }

    private static void rescueFirstOfSeveral() {
        rescue("by LINK", Due.laid("n2;l0,1,1,2;l0,1,1,3;l0,1,9,1;d0,1,1;"), 2, 0, 3, 20);
        rescue("by LINK, the failed one between", Due.laid("n2;l0,1,1,3;l0,1,9,1;l0,1,1,2;d0,1,1;"), 1, 0, 2, 20);
        rescue("then by WEIGHT", Due.laid("n3;l0,2,99,1;l0,1,9,1;l1,2,9,1;l0,2,1,1;d0,2,4;"), 0, 3, 3, 144);
    }

    private static void rescueAtTheWeightsEnds() {
        rescue("as 1", Due.laid("n3;l0,2,99,1;l0,1,9,5;l1,2,9,4;l0,2,1,5;d0,2,1;"), 0, 1, 1, 22);
        rescue("as 20", Due.laid("n3;l0,2,99,1;l0,2,1,2;l0,1,9,5;l1,2,9,15;d0,2,1;"), 0, 1, 20, 22);
        rescue("21 is no WEIGHT", Due.laid("n3;l0,2,99,1;l0,2,1,2;l0,1,9,6;l1,2,9,15;d0,2,1;"), 0, NONE, NONE, NONE);
    }

    private static void rescueByAnother() {
        LoadWeights x = Due.laid("n2;l0,1,9,1;l0,1,1,2;l0,1,1,3;d0,1,1;");
        x.turn(2, 0);
        rescue("another that is DOWN does not help", x, 0, NONE, NONE, NONE);
        x.turn(2, 1);
        x.turn(1, 0);
        rescue("nor here", x, 0, NONE, NONE, NONE);
        rescue("NONE for the others", x, 2, NONE, NONE, NONE);
    }

    /** No MOVE makes a way: what is LOST stays so, yet COST of the rest may be less. */
    private static void rescueOfWhatIsLost() {
        LoadWeights x = Due.laid("n4;l0,3,9,1;l0,1,1,1;l0,2,9,1;l2,1,9,1;d0,1,1;d0,3,1;");
        rescue("12000 and the rest", x, 0, 1, 2, 12000 + 22);
        rescue("LOST alone", Due.laid("n3;l0,1,9,1;l1,2,9,1;d0,2,1;"), 0, NONE, NONE, NONE);
    }

    private static void rescueBeItTabu() {
        LoadWeights x = Due.laid("n2;l0,1,9,1;l0,1,1,2;l0,1,1,3;d0,1,1;");
        x.move(1, 3);
        x.step(1);
        x.move(0, 1);
        x.move(1, 2);
        due.is("1, 3, 3 is TABU", 1, x.tabu(1, 3));
        rescue("TABU or not", x, 0, 1, 3, 20);
    }
}
