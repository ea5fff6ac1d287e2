/** Each promise by itself, with answers worked out by hand: ordinary inputs, edges, wrong inputs. */
public final class PromiseTest {
    private static final int BAD = -1, NO = -2, FULL = -3, NONE = -4;
    private static final int LOW = Integer.MIN_VALUE, HIGH = Integer.MAX_VALUE;

    /** Two LINKS side by side, 12 TWELFTHS: 6 by each cost 4 * 1 + 2 * 3 = 10; 12 by one cost 4 + 12 + 30 + 70 = 116. */
    private static final String TWINS = "n2;l0,1,1,1;l0,1,1,1;d0,1,1;";
    /** 0 to 3 by 1 (LINKS 0, 1), by 2 (LINKS 2, 3), or at once (LINK 4), which is longer. */
    private static final String DIAMOND = "l0,1,9,2;l1,3,9,3;l0,2,9,1;l2,3,9,2;l0,3,9,8;d0,3,1;";

    private static final Due due = new Due();

    public static void main(String[] args) {
        newObject();
        write();
        wipe();
        fault();
        lay();
        move();
        even();
        evenByFarAhead();
        step();
        stepsByTabu();
        stepBackToWhatIsBetter();
        turn();
        undo();
        undoneMarks();
        link();
        pieces();
        far();
        share();
        cost();
        tabu();
        best();
        worst();
        rescue();
        count();
        due.end("PromiseTest");
    }

    private static String times(String item, int n) {
        return item.repeat(n);
    }

    // Promise 1
    private static void newObject() {
        LoadWeights x = new LoadWeights();
        int[][] links = {{0, 1, 10, 2}, {1, 4, 8, 2}, {0, 2, 9, 1}, {2, 4, 6, 3}, {0, 3, 20, 4}, {3, 4, 20, 4}, {2, 1, 5, 1}};
        due.is("new: NODES", 5, x.count(0));
        due.is("new: LINKS", 7, x.count(1));
        due.is("new: DEMANDS", 2, x.count(2));
        for (int l = 0; l < links.length; l++) {
            for (int what = 0; what < 4; what++) {
                due.is("new: link(" + l + ", " + what + ")", links[l][what], x.link(l, what));
            }
            due.is("new: LINK is UP", 1, x.link(l, 4));
        }
        due.is("new: LEAST COST", x.cost(), x.count(6));
        due.is("new: no MARKS", 0, x.count(8));
        due.is("new: none can be UNDONE", 0, x.count(9));
        due.is("new: undo()", NO, x.undo());
        due.is("new: THE TEXT is empty", 0, x.count(10));
        due.is("new: fault()", NONE, x.fault());
        due.is("new: lay()", NO, x.lay());
        due.is("new: wipe()", 0, x.wipe());
    }

    // Promise 2
    private static void write() {
        LoadWeights x = new LoadWeights();
        for (int letter : new int[] {LOW, -1, 0, 31, 127, 255, HIGH}) {
            due.is("write(" + letter + ")", BAD, () -> x.write(letter));
        }
        due.is("write: nothing came", 0, x.count(10));
        due.is("write(32)", 1, x.write(32));
        due.is("write(126)", 2, x.write(126));
        for (int i = 3; i <= 200; i++) {
            due.is("write letter " + i, i, x.write(';'));
        }
        due.is("write letter 201", FULL, x.write(';'));
        due.is("write a bad letter 201", BAD, x.write(31));
        due.is("write: it stays at 200", 200, x.count(10));
        due.is("write: the first letter is at fault", 0, x.fault());
    }

    // Promise 3
    private static void wipe() {
        LoadWeights x = new LoadWeights();
        Due.write(x, TWINS);
        due.is("wipe()", TWINS.length(), x.wipe());
        due.is("wipe: empty", 0, x.count(10));
        due.is("wipe() again", 0, x.wipe());
        due.is("wipe: the net stays", 5, x.count(0));
        due.is("wipe: write begins anew", 1, x.write('n'));
        Due.write(x, "2;");
        due.is("wipe: fault() of what came behind", NONE, x.fault());
    }

    // Promise 4
    private static void fault() {
        Object[][] texts = {
            {"", NONE}, {";", 0}, {"n", 0}, {"n4", 0}, {"n;", 0}, {"n1;", 0}, {"n2;", NONE}, {"n7;", NONE}, {"n8;", 0},
            {"n0;", 0}, {"n99;", 0}, {"n04;", NONE}, {"n004;", 0}, {"n4;;", 3}, {"n4,;", 0}, {"n,4;", 0}, {"n4,4;", 0},
            {"N4;", 0}, {" n4;", 0}, {"n4 ;", 0}, {"n4; ", 3}, {"4;", 0}, {"x4;", 0}, {"nn4;", 0}, {"n-4;", 0}, {"n4;n", 3},
            {"n3;n5;l4,0,1,1;", NONE}, {"n5;n3;l4,0,1,1;", 6}, {"n2;n7;n3;n2;", NONE},
            {"l0,1,1,1;n4;", 9}, {"d0,1,1;n4;", 7}, {"n3;l0,1,1,1;n3;", 12},
            {"l3,0,1,1;", NONE}, {"l0,3,1,1;", NONE}, {"l4,0,1,1;", 0}, {"l0,4,1,1;", 0}, {"l0,0,1,1;", 0},
            {"n7;l6,5,1,1;", NONE}, {"n7;l7,5,1,1;", 3}, {"n2;l1,2,1,1;", 3}, {"l00,01,01,01;", NONE}, {"l01,1,1,1;", 0},
            {"l0,1,0,1;", 0}, {"l0,1,00,1;", 0}, {"l0,1,99,1;", NONE}, {"l0,1,100,1;", 0}, {"l0,1,1,0;", 0},
            {"l0,1,1,20;", NONE}, {"l0,1,1,21;", 0}, {"l0,1,1;", 0}, {"l0,1,1,1,1;", 0}, {"l0,1,1,1,;", 0}, {"l,0,1,1,1;", 0},
            {"l0,,1,1;", 0}, {"l,1,1,1;", 0}, {"l1,,1,1;", 0}, {"d,1,1;", 0}, {"l0,1,1,1", 0}, {"l;", 0}, {"l0;1,1,1;", 0}, {"n4;l0,1,1,1", 3}, {"l0,1,1,1;l0,1,1,1;l0", 18},
            {"d0,1,0;", 0}, {"d0,1,1;", NONE}, {"d0,1,99;", NONE}, {"d0,1,100;", 0}, {"d0,0,1;", 0}, {"d4,0,1;", 0},
            {"d0,4,1;", 0}, {"d3,0,1;", NONE}, {"d0,1;", 0}, {"d0,1,1,1;", 0}, {"d0,1,1", 0}, {"d0,1,1;l0,1,1,1;d1,0,1;", NONE},
            {"d0,1,1;x;l9;", 7}, {"d0,1,1;l1,1,1,1;l9;", 7},
            {times("l0,1,1,1;", 12), NONE}, {times("l0,1,1,1;", 13), 108}, {times("l0,1,1,1;", 12) + "d0,1,1;", NONE},
            {times("d0,1,1;", 6), NONE}, {times("d0,1,1;", 7), 42}, {times("d0,1,1;", 6) + "l0,1,1,1;", NONE},
            {times("n2;", 66), NONE}, {times("n2;", 66) + "n2", 198},
        };
        for (Object[] row : texts) {
            LoadWeights x = new LoadWeights();
            Due.write(x, (String) row[0]);
            due.is("fault() of " + row[0], (int) row[1], x::fault);
            due.is("fault(): the net stays", 7, x.count(1));
        }
    }

    // Promise 5
    private static void lay() {
        for (String text : new String[] {"", "n4;", "l0,1,1,1;", "d0,1,1;", "l0,1,1,1;d0,1,1;x", "l0,1,1,1;d0,1,1;l0,1,1,1"}) {
            LoadWeights x = Due.laid(DIAMOND);
            x.move(0, 7);
            x.wipe();
            Due.write(x, text);
            due.is("lay() of " + text, NO, x.lay());
            due.is("lay() NO: LINKS stay", 5, x.count(1));
            due.is("lay() NO: WEIGHTS stay", 7, x.link(0, 3));
            due.is("lay() NO: changes stay", 1, x.count(9));
            due.is("lay() NO: THE TEXT stays", text.length(), x.count(10));
        }
        LoadWeights x = Due.laid(DIAMOND);
        x.turn(0, 0);
        x.move(4, 1);
        x.step(2);
        due.is("lay() again: THE TEXT has stayed", 5, x.lay());
        due.is("lay(): all are UP", 0, x.count(3));
        due.is("lay(): WEIGHTS as told", 8, x.link(4, 3));
        due.is("lay(): no MARKS", 0, x.count(8));
        due.is("lay(): none can be UNDONE", 0, x.count(9));
        due.is("lay(): undo()", NO, x.undo());
        due.is("lay(): the LEAST COST is that of now", 24, x.count(6));
        due.is("lay(): THE TEXT stays", DIAMOND.length(), x.count(10));
        LoadWeights four = Due.laid("l0,1,1,1;d0,1,1;");
        due.is("lay(): 4 NODES without n", 4, four.count(0));
        LoadWeights last = Due.laid("n2;n6;l0,1,1,1;d0,1,1;");
        due.is("lay(): the last n counts", 6, last.count(0));
        LoadWeights dearer = Due.laid("n2;l0,1,1,1;d0,1,99;");
        Due.write(dearer, "d1,0,99;");
        dearer.lay();
        due.is("lay(): LEAST COST may be more than ever", dearer.cost(), dearer.count(6));
    }

    // Promise 6
    private static void move() {
        LoadWeights x = Due.laid(TWINS);
        int[][] bad = {{-1, 1}, {2, 1}, {0, 0}, {0, 21}, {0, -1}, {LOW, 1}, {HIGH, 1}, {0, LOW}, {0, HIGH}, {2, 0}};
        for (int[] p : bad) {
            due.is("move(" + p[0] + ", " + p[1] + ")", BAD, () -> x.move(p[0], p[1]));
        }
        due.is("move to what it is", NO, x.move(0, 1));
        due.is("move: nothing changed", 0, x.count(9));
        due.is("move(0, 20)", 1, x.move(0, 20));
        due.is("move: WEIGHT", 20, x.link(0, 3));
        due.is("move: the other stays", 1, x.link(1, 3));
        due.is("move: COST", 116, x.cost());
        due.is("move: LEAST COST stays", 20, x.count(6));
        due.is("move: no MARK becomes TABU", 0, x.count(8));
        due.is("move: a change", 1, x.count(9));
        due.is("move(0, 2)", 20, x.move(0, 2));
        due.is("move(0, 1)", 2, x.move(0, 1));
        LoadWeights uneven = Due.laid("n2;l0,1,1,1;l0,1,1,2;d0,1,1;");
        due.is("ahead: LEAST COST", 116, uneven.count(6));
        due.is("move(1, 1)", 2, uneven.move(1, 1));
        due.is("move: LEAST COST falls", 20, uneven.count(6));
        uneven.turn(0, 0);
        due.is("move of a LINK that is DOWN", 1, uneven.move(0, 3));
    }

    // Promise 7
    private static void even() {
        LoadWeights x = Due.laid(DIAMOND);
        int[][] bad = {{-1, 3}, {4, 3}, {0, -1}, {0, 4}, {LOW, 0}, {0, HIGH}, {4, 4}};
        for (int[] p : bad) {
            due.is("even(" + p[0] + ", " + p[1] + ")", BAD, () -> x.even(p[0], p[1]));
        }
        due.is("even: x is t", NO, x.even(0, 0));
        due.is("even: one such LINK", NO, x.even(1, 3));
        due.is("even: no such LINK", NO, x.even(3, 0));
        due.is("even: one end has a way", NO, x.even(0, 1));
        due.is("even: nothing changed", 0, x.count(9));
        // FAR of 1, 2, 3 is 3, 2, 0: WEIGHTS 1, 2, 4, where 2, 1, 8 were.
        due.is("even(0, 3)", 3, x.even(0, 3));
        due.is("even: LINK 0", 1, x.link(0, 3));
        due.is("even: LINK 2", 2, x.link(2, 3));
        due.is("even: LINK 4", 4, x.link(4, 3));
        due.is("even: 4 by each", 4, x.link(0, 5));
        due.is("even: COST", 4 * 5, x.cost());
        due.is("even: LEAST COST falls", 20, x.count(6));
        due.is("even: a change", 1, x.count(9));
        due.is("even: no MARK becomes TABU", 0, x.count(8));
        due.is("even: none would have another", NO, x.even(0, 3));
        x.move(4, 9);
        due.is("even: only one has another", 1, x.even(0, 3));
        x.turn(4, 0);
        x.move(0, 6);
        x.move(4, 9);
        due.is("even: LINKS that are UP alone", 1, x.even(0, 3));
        due.is("even: LINK 0 again", 1, x.link(0, 3));
        due.is("even: not the one that is DOWN", 9, x.link(4, 3));
        x.turn(2, 0);
        due.is("even: one LINK is UP", NO, x.even(0, 3));
    }

    private static void evenByFarAhead() {
        LoadWeights twins = Due.laid("n2;l0,1,1,5;l0,1,1,7;d0,1,1;");
        due.is("even: LINKS side by side", 2, twins.even(0, 1));
        due.is("even: both are 1", 1, twins.link(1, 3));
        // FAR of 1 is 20: WEIGHT of the LINK to 2 itself would be 21; with 19 it is 20.
        LoadWeights above = Due.laid("n3;l0,1,9,1;l1,2,9,20;l0,2,9,3;d0,2,1;");
        due.is("even: one would be above 20", NO, above.even(0, 2));
        due.is("even: nothing changed", 3, above.link(2, 3));
        above.move(1, 19);
        due.is("even: 20 is not above 20", 1, above.even(0, 2));
        due.is("even: 20", 20, above.link(2, 3));
        // From 1 the way to 2 leads over 0 again: FAR of 1 is 1 + 5, so WEIGHT to 2 is 7, to 1 is 1.
        LoadWeights back = Due.laid("n3;l0,1,9,4;l1,0,9,1;l0,2,9,5;d0,2,1;");
        due.is("even: a way over x counts", 2, back.even(0, 2));
        due.is("even: LINK 0", 1, back.link(0, 3));
        due.is("even: LINK 2", 7, back.link(2, 3));
        due.is("even: FAR is another behind it", 7, back.far(0, 2));
        LoadWeights round = Due.laid("n2;l0,1,9,4;l0,1,9,4;l1,0,9,1;d0,1,1;");
        due.is("even: x is t, though its LINKS lead back", NO, round.even(0, 0));
        // What is none of x's, DOWN or without a way is left.
        LoadWeights left = Due.laid("n5;l0,1,9,4;l0,2,9,4;l1,3,9,4;l2,3,9,4;l0,4,9,4;l4,0,9,4;d0,3,1;");
        left.turn(5, 0);
        due.is("even: a LINK to nowhere does not count", 2, left.even(0, 3));
        due.is("even: it stays", 4, left.link(4, 3));
        due.is("even: those of others stay", 4, left.link(2, 3));
    }

    // Promise 8
    private static void step() {
        LoadWeights x = Due.laid("n2;l0,1,1,1;l0,1,1,3;d0,1,1;");
        for (int n : new int[] {LOW, -1, 0, 4, HIGH}) {
            due.is("step(" + n + ")", BAD, () -> x.step(n));
        }
        due.is("step: nothing changed", 0, x.count(9) + x.count(8));
        // The least COST is 20: LINK 0 as 3 (first) or LINK 1 as 1.
        due.is("step(1)", 20, x.step(1));
        due.is("step: the first of several", 3, x.link(0, 3));
        due.is("step: LINK 1 stays", 3, x.link(1, 3));
        due.is("step: LEAST COST", 20, x.count(6));
        due.is("step: one MARK", 1, x.count(8));
        due.is("step: the MARK ahead of it", 1, x.tabu(0, 1));
        due.is("step: not that of now", 0, x.tabu(0, 3));
        // All others cost 116; back to 1 is TABU and not below the LEAST COST: LINK 0 as 2 is first.
        due.is("step(1) where it is worse", 116, x.step(1));
        due.is("step: WEIGHT 1 is TABU", 2, x.link(0, 3));
        due.is("step: LEAST COST stays", 20, x.count(6));
        due.is("step: two changes", 2, x.count(9));
        // LINK 0 as 3 is TABU; LINK 1 as 2 is 20 too.
        due.is("step(1) round what is TABU", 20, x.step(1));
        due.is("step: LINK 1", 2, x.link(1, 3));
        LoadWeights y = Due.laid("n2;l0,1,1,1;l0,1,1,3;d0,1,1;");
        due.is("step(3)", 20, y.step(3));
        due.is("step(3): LINK 0", 2, y.link(0, 3));
        due.is("step(3): LINK 1", 2, y.link(1, 3));
        due.is("step(3): three MARKS", 3, y.count(8));
        due.is("step(3): one change", 1, y.count(9));
        LoadWeights two = Due.laid("n2;l0,1,1,1;l0,1,1,3;d0,1,1;");
        due.is("step(2)", 116, two.step(2));
        due.is("step(2): the LEAST COST was between", 20, two.count(6));
    }

    private static void stepsByTabu() {
        // One LINK: COST is always 116, so each STEP is to the lowest WEIGHT that is free. Ahead of the
        // seventh 1 to 6 are TABU and it is 7, so 8 is next; then 2 to 7 are TABU and it is 8: 1 is free again.
        LoadWeights x = Due.laid("n2;l0,1,1,1;d0,1,1;");
        int[] weights = {2, 3, 4, 5, 6, 7, 8, 1, 2};
        for (int i = 0; i < weights.length; i++) {
            due.is("steps: COST", 116, x.step(1));
            due.is("steps: WEIGHT behind STEP " + (i + 1), weights[i], x.link(0, 3));
            due.is("steps: MARKS", Math.min(i + 1, 6), x.count(8));
            due.is("steps: changes", Math.min(i + 1, 6), x.count(9));
        }
        // A MARK that is TABU already takes a place once more.
        LoadWeights twice = Due.laid("n2;l0,1,1,1;d0,1,1;");
        twice.step(1);
        twice.move(0, 1);
        twice.step(1);
        due.is("steps: a MARK counts twice", 2, twice.count(8));
        due.is("steps: from 1 on again", 2, twice.link(0, 3));
        twice.step(3);
        twice.step(1);
        due.is("steps: six", 6, twice.count(8));
        due.is("steps: 1 is TABU by its second place", 1, twice.tabu(0, 1));
        twice.step(1);
        due.is("steps: still, by the second place", 1, twice.tabu(0, 1));
        twice.step(1);
        due.is("steps: no more", 0, twice.tabu(0, 1));
        LoadWeights down = Due.laid("n3;l0,1,1,1;l0,1,1,1;d0,1,1;");
        down.turn(0, 0);
        due.is("steps: COST stays, LINK 0 is first", 116, down.step(1));
        due.is("steps: a STEP of a LINK that is DOWN", 2, down.link(0, 3));
    }

    /** WEIGHTS that are TABU may be gone back to where COST is below the LEAST COST, as LINKS are UP that were DOWN. */
    private static void stepBackToWhatIsBetter() {
        LoadWeights x = Due.laid("n2;l0,1,1,1;l0,1,1,3;d0,1,1;");
        x.turn(1, 0);
        x.move(0, 3);
        due.is("back: one LINK bears all", 116, x.step(1));
        due.is("back: LINK 0 as 1 was first", 1, x.link(0, 3));
        x.turn(1, 1);
        due.is("back: the LEAST COST", 116, x.count(6));
        due.is("back: 3, 3 is TABU", 1, x.tabu(0, 3));
        due.is("back: below the LEAST COST", 20, x.step(1));
        due.is("back: LINK 0 as 3, TABU or not", 3, x.link(0, 3));
        due.is("back: not LINK 1 as 1", 3, x.link(1, 3));
        due.is("back: the LEAST COST is less", 20, x.count(6));
    }

    // Promise 9
    private static void turn() {
        LoadWeights x = Due.laid(TWINS);
        int[][] bad = {{-1, 0}, {2, 0}, {0, 2}, {0, -1}, {LOW, 1}, {0, HIGH}};
        for (int[] p : bad) {
            due.is("turn(" + p[0] + ", " + p[1] + ")", BAD, () -> x.turn(p[0], p[1]));
        }
        due.is("turn: it is UP", NO, x.turn(0, 1));
        due.is("turn: nothing changed", 0, x.count(9));
        due.is("turn(0, 0)", 116, x.turn(0, 0));
        due.is("turn: DOWN", 0, x.link(0, 4));
        due.is("turn: a change", 1, x.count(9));
        due.is("turn: it is DOWN", NO, x.turn(0, 0));
        due.is("turn(1, 0): LOST", 12000, x.turn(1, 0));
        due.is("turn(0, 1)", 116, x.turn(0, 1));
        due.is("turn: UP", 1, x.link(0, 4));
        due.is("turn: LEAST COST stays", 20, x.count(6));
        // Here COST falls from 116 to 24 by a LINK that is DOWN, which the LEAST COST does not heed.
        LoadWeights y = Due.laid("n3;l0,1,1,1;l0,2,9,1;l2,1,9,1;d0,1,1;");
        due.is("turn: COST falls", 24, y.turn(0, 0));
        due.is("turn: not the LEAST COST", 116, y.count(6));
        due.is("turn: a MOVE ..", 1, y.move(0, 2));
        due.is("turn: .. behind it is heeded", 24, y.count(6));
    }

    // Promise 10
    private static void undo() {
        LoadWeights x = Due.laid(DIAMOND);
        due.is("undo() of none", NO, x.undo());
        x.move(0, 3);
        x.turn(1, 0);
        due.is("undo() a turn", 1, x.undo());
        due.is("undo: UP again", 1, x.link(1, 4));
        due.is("undo: the move stays", 3, x.link(0, 3));
        due.is("undo() a move", 0, x.undo());
        due.is("undo: WEIGHT", 2, x.link(0, 3));
        due.is("undo() is none itself", NO, x.undo());
        x.even(0, 3);
        due.is("undo() an evening", 0, x.undo());
        due.is("undo: LINK 0", 2, x.link(0, 3));
        due.is("undo: LINK 2", 1, x.link(2, 3));
        due.is("undo: LINK 4", 8, x.link(4, 3));
        due.is("undo: the LEAST COST is as it was", 24, x.count(6));
        for (int w = 3; w <= 10; w++) {
            x.move(0, w);
        }
        due.is("undo: six can be", 6, x.count(9));
        for (int i = 0; i < 6; i++) {
            due.is("undo() " + i, 5 - i, x.undo());
            due.is("undo: WEIGHT " + i, 9 - i, x.link(0, 3));
        }
        due.is("undo: no seventh", NO, x.undo());
        due.is("undo: WEIGHT then", 4, x.link(0, 3));
        x.move(0, 5);
        x.move(0, 6);
        x.undo();
        x.move(0, 7);
        due.is("undo() behind a change behind undo()", 1, x.undo());
        due.is("undo: 5 again", 5, x.link(0, 3));
        due.is("undo() the first", 0, x.undo());
        due.is("undo: 4 again", 4, x.link(0, 3));
    }

    private static void undoneMarks() {
        LoadWeights x = Due.laid("n2;l0,1,1,1;l0,1,1,3;d0,1,1;");
        x.step(1);
        x.step(3);
        due.is("undo: four MARKS ahead", 4, x.count(8));
        due.is("undo() three STEPS at once", 1, x.undo());
        due.is("undo: one MARK", 1, x.count(8));
        due.is("undo: it is the first one", 1, x.tabu(0, 1));
        due.is("undo: LINK 0", 3, x.link(0, 3));
        due.is("undo() the first STEP", 0, x.undo());
        due.is("undo: no MARK", 0, x.count(8));
        due.is("undo: the LEAST COST", 116, x.count(6));
        due.is("undo: not TABU", 0, x.tabu(0, 1));
        LoadWeights full = Due.laid("n2;l0,1,1,1;d0,1,1;");
        full.step(3);
        full.step(3);
        full.step(1);
        due.is("undo: the first MARK is gone", 0, full.tabu(0, 1));
        full.undo();
        due.is("undo: the MARK that gave way is back", 1, full.tabu(0, 1));
        due.is("undo: the new one is not", 0, full.tabu(0, 7));
        full.step(2);
        due.is("undo: behind it the first ones give way again", 0, full.tabu(0, 2));
        due.is("undo: and no others", 1, full.tabu(0, 3));
    }

    // Promise 11
    private static void link() {
        LoadWeights x = Due.laid("n4;l0,1,7,2;l1,3,5,3;l0,2,9,3;l2,3,9,2;l3,0,11,20;d0,3,4;d1,3,2;d3,1,1;d0,3,1;");
        int[][] bad = {{-1, 0}, {5, 0}, {0, -1}, {0, 8}, {LOW, 0}, {HIGH, 0}, {0, LOW}, {0, HIGH}};
        for (int[] p : bad) {
            due.is("link(" + p[0] + ", " + p[1] + ")", BAD, () -> x.link(p[0], p[1]));
        }
        // 60 TWELFTHS from 0 to 3 in halves (24 + 6 by each), 24 from 1 to 3, 12 from 3 to 1 by LINKS 4, 0.
        // SHORT for 3 (three DEMANDS) are LINKS 0 to 3; for 1 (one, from 3) LINKS 4, 0 and, from 2, LINK 3.
        int[][] want = {
            {0, 1, 7, 2, 1, 42, 28 + 14 * 3, 4},
            {1, 3, 5, 3, 1, 54, 20 + 60 + 14 * 10, 3},
            {0, 2, 9, 3, 1, 30, 30, 3},
            {2, 3, 9, 2, 1, 30, 30, 4},
            {3, 0, 11, 20, 1, 12, 12, 1},
        };
        for (int l = 0; l < want.length; l++) {
            for (int what = 0; what < 8; what++) {
                due.is("link(" + l + ", " + what + ")", want[l][what], x.link(l, what));
            }
        }
        x.move(2, 1);
        due.is("link: LINK 0 is SHORT for 1 alone", 1, x.link(0, 7));
        due.is("link: LINK 1 all the same", 3, x.link(1, 7));
        x.turn(1, 0);
        due.is("link: DOWN", 0, x.link(1, 4));
        due.is("link: no LOAD", 0, x.link(1, 5));
        due.is("link: no COST", 0, x.link(1, 6));
        due.is("link: DOWN is not SHORT", 0, x.link(1, 7));
        // The DEMAND from 1 is LOST: LINK 3 is SHORT for the three others.
        due.is("link: LOST ones do not count", 3, x.link(3, 7));
    }

    private static void pieces() {
        int[][] rows = { // SIZE, ROOM, COST of 12 SIZE TWELFTHS
            {1, 99, 12}, {1, 3, 12}, {2, 3, 12 + 12 * 3}, {3, 4, 16 + 16 * 3 + 4 * 10}, {11, 12, 48 + 48 * 3 + 36 * 10},
            {1, 1, 4 + 12 + 30 + 70}, {2, 1, 116 + 12 * 500}, {99, 1, 116 + 1176 * 500}, {99, 99, 99 * 116},
        };
        for (int[] row : rows) {
            LoadWeights x = Due.laid("n2;l0,1," + row[1] + ",1;d0,1," + row[0] + ";");
            due.is("COST of SIZE " + row[0] + " by ROOM " + row[1], row[2], x.link(0, 6));
            due.is("COST of all", row[2], x.cost());
        }
    }

    // Promise 12
    private static void far() {
        LoadWeights x = Due.laid(DIAMOND);
        int[][] bad = {{-1, 0}, {4, 0}, {0, -1}, {0, 4}, {LOW, 0}, {0, HIGH}};
        for (int[] p : bad) {
            due.is("far(" + p[0] + ", " + p[1] + ")", BAD, () -> x.far(p[0], p[1]));
        }
        int[][] want = {{0, 2, 1, 3}, {NONE, 0, NONE, 3}, {NONE, NONE, 0, 2}, {NONE, NONE, NONE, 0}};
        for (int a = 0; a < 4; a++) {
            for (int b = 0; b < 4; b++) {
                due.is("far(" + a + ", " + b + ")", want[a][b], x.far(a, b));
            }
        }
        x.turn(2, 0);
        due.is("far: by 1", 5, x.far(0, 3));
        x.turn(1, 0);
        due.is("far: at once", 8, x.far(0, 3));
        x.turn(4, 0);
        due.is("far: no way", NONE, x.far(0, 3));
        // The longest way there can be, its LINKS told from its end and from its beginning.
        LoadWeights row = Due.laid("n7;l0,1,1,20;l1,2,1,20;l2,3,1,20;l3,4,1,20;l4,5,1,20;l5,6,1,20;d0,6,1;");
        due.is("far: 6 LINKS", 120, row.far(0, 6));
        LoadWeights rowBack = Due.laid("n7;l5,6,1,20;l4,5,1,20;l3,4,1,20;l2,3,1,20;l1,2,1,20;l0,1,1,20;d0,6,1;");
        due.is("far: 6 LINKS the other way round", 120, rowBack.far(0, 6));
    }

    // Promise 13
    private static void share() {
        LoadWeights x = Due.laid("n3;" + times("l0,1,1,1;", 5) + "l1,2,9,1;l1,2,9,1;d0,2,1;d0,1,1;d2,0,3;");
        int[][] bad = {{-1, 0}, {3, 0}, {0, -1}, {0, 7}, {LOW, 0}, {0, HIGH}};
        for (int[] p : bad) {
            due.is("share(" + p[0] + ", " + p[1] + ")", BAD, () -> x.share(p[0], p[1]));
        }
        int[] first = {3, 3, 2, 2, 2, 6, 6};
        int[] second = {3, 3, 2, 2, 2, 0, 0};
        for (int l = 0; l < 7; l++) {
            due.is("share(0, " + l + ")", first[l], x.share(0, l));
            due.is("share(1, " + l + ")", second[l], x.share(1, l));
            due.is("share of one that is LOST", 0, x.share(2, l));
        }
        x.turn(0, 0);
        due.is("share: by the others", 3, x.share(0, 1));
        due.is("share: DOWN", 0, x.share(0, 0));
        // What comes to 1 from 0 and by 2 is split there as one: 6 + 6 by 5 are 3, 3, 2, 2, 2, not 2 * (2, 1, 1, 1, 1).
        LoadWeights met = Due.laid("n4;l0,1,9,2;l0,2,9,1;l2,1,9,1;" + times("l1,3,9,1;", 5) + "d0,3,1;");
        int[] want = {6, 6, 6, 3, 3, 2, 2, 2};
        for (int l = 0; l < want.length; l++) {
            due.is("share where ways meet, LINK " + l, want[l], met.share(0, l));
        }
        // The farther NODE has the higher number here, so order by number would leave some behind.
        LoadWeights later = Due.laid("n4;l0,3,9,1;l3,1,9,1;l1,2,9,1;d0,2,2;");
        due.is("share: the last LINK bears all", 24, later.share(0, 2));
    }

    // Promise 14
    private static void cost() {
        due.is("cost() of twins", 20, Due.laid(TWINS).cost());
        due.is("cost() with one LOST", 20 + 12000 * 7, Due.laid(TWINS + "d1,0,7;").cost());
        due.is("cost() of two DEMANDS by the same", 2 * 116, Due.laid(TWINS + "d0,1,1;").cost());
        due.is("cost() of all that there can be", 12000 * 99 * 6, Due.laid("n3;l0,1,1,1;" + times("d1,0,99;", 6)).cost());
        int load = 12 * 99 * 6;
        due.is("cost() of the fullest LINK", 116 + (load - 12) * 500, Due.laid("n2;l0,1,1,1;" + times("d0,1,99;", 6)).cost());
        due.is("cost() of the first net", 26064, new LoadWeights().cost());
    }

    // Promise 15
    private static void tabu() {
        LoadWeights x = Due.laid("n2;l0,1,1,1;l0,1,1,3;d0,1,1;");
        int[][] bad = {{-1, 1}, {2, 1}, {0, 0}, {0, 21}, {LOW, 1}, {0, HIGH}};
        for (int[] p : bad) {
            due.is("tabu(" + p[0] + ", " + p[1] + ")", BAD, () -> x.tabu(p[0], p[1]));
        }
        due.is("tabu: none at first", 0, x.tabu(0, 1));
        x.step(1);
        for (int w = 1; w <= 20; w++) {
            due.is("tabu(0, " + w + ")", w == 1 ? 1 : 0, x.tabu(0, w));
            // MARK of 3, w is 31 * (31 * 7 + 3) + w, that of 1, 3 is 59 and w less: none of these is it.
            due.is("tabu(1, " + w + ")", 0, x.tabu(1, w));
        }
        x.move(0, 1);
        due.is("tabu: the WEIGHT as it is, too", 1, x.tabu(1, 3));
        due.is("tabu: the same by LINK 0", 1, x.tabu(0, 1));
        due.is("tabu: the other is not", 0, x.tabu(0, 3));
    }

    // Promise 16
    private static void best() {
        LoadWeights x = Due.laid("n2;l0,1,1,1;l0,1,1,3;d0,1,1;");
        for (int what : new int[] {LOW, -1, 3, HIGH}) {
            due.is("best(" + what + ")", BAD, () -> x.best(what));
        }
        due.is("best: the first LINK", 0, x.best(0));
        due.is("best: its WEIGHT", 3, x.best(1));
        due.is("best: COST then", 20, x.best(2));
        due.is("best: nothing changed", 116, x.cost());
        x.step(1);
        // Now all MOVES cost 116; the first one, back to 1, is TABU, which does not matter here.
        due.is("best: LINK, be it worse", 0, x.best(0));
        due.is("best: WEIGHT, be it TABU", 1, x.best(1));
        due.is("best: COST, be it more than now", 116, x.best(2));
        LoadWeights one = Due.laid("n2;l0,1,1,1;d0,1,1;");
        due.is("best: not the WEIGHT as it is", 2, one.best(1));
        one.turn(0, 0);
        due.is("best: of a LINK that is DOWN", 0, one.best(0));
        due.is("best: COST stays", 12000, one.best(2));
        // LINK 0 as 6: 0 to 1 at once and by 2 are as short, 6 TWELFTHS by each cost 10 + 6 + 6.
        LoadWeights second = Due.laid("n3;l0,1,1,2;l0,2,9,5;l2,1,9,1;d0,1,1;");
        due.is("best: LINK 0", 0, second.best(0));
        due.is("best: as 6, though 1 to 5 come first", 6, second.best(1));
        due.is("best: both ways are used", 22, second.best(2));
        LoadWeights third = Due.laid("n3;l0,2,9,5;l2,1,9,15;l0,1,1,2;d0,1,1;");
        due.is("best: a LINK that is not the first", 2, third.best(0));
        due.is("best: as 20, the greatest", 20, third.best(1));
        third.move(1, 1);
        third.turn(0, 0);
        due.is("best: by the LINKS as they stand", 116, third.best(2));
    }

    // Promise 17
    private static void worst() {
        LoadWeights x = Due.laid("n3;l0,1,1,1;l0,1,1,2;l1,2,9,1;d0,2,1;");
        for (int what : new int[] {LOW, -1, 2, HIGH}) {
            due.is("worst(" + what + ")", BAD, () -> x.worst(what));
        }
        due.is("worst: the LINK without which it is LOST", 2, x.worst(0));
        due.is("worst: COST then", 12000, x.worst(1));
        due.is("worst: nothing changed", 116 + 12, x.cost());
        x.turn(2, 0);
        due.is("worst: of several the lowest", 0, x.worst(0));
        due.is("worst: COST as now", 12000, x.worst(1));
        x.turn(0, 0);
        due.is("worst: of those that are UP", 1, x.worst(0));
        x.turn(1, 0);
        due.is("worst(0): none is UP", NONE, x.worst(0));
        due.is("worst(1): none is UP", NONE, x.worst(1));
        due.is("worst(2): BAD first", BAD, x.worst(2));
        // Each failure is better than now here: the worst is that by which it is least better.
        LoadWeights better = Due.laid("n4;l0,1,1,1;l0,2,9,1;l2,1,9,1;l0,3,9,20;d0,1,1;");
        due.is("worst: COST then, be it as now", 116, better.worst(1));
        due.is("worst: LINK 0 helps, LINK 1 does not matter", 1, better.worst(0));
    }

    // Promise 18
    private static void rescue() {
        // LINK 0 DOWN: all by LINK 1 (WEIGHT 2), or, if that is 3, by LINK 2 too: 20.
        LoadWeights x = Due.laid("n2;l0,1,9,1;l0,1,1,2;l0,1,1,3;d0,1,1;");
        int[][] bad = {{-1, 0}, {3, 0}, {0, -1}, {0, 3}, {LOW, 0}, {0, HIGH}};
        for (int[] p : bad) {
            due.is("rescue(" + p[0] + ", " + p[1] + ")", BAD, () -> x.rescue(p[0], p[1]));
        }
        due.is("rescue(0, 0)", 1, x.rescue(0, 0));
        due.is("rescue(0, 1)", 3, x.rescue(0, 1));
        due.is("rescue(0, 2)", 20, x.rescue(0, 2));
        due.is("rescue: nothing changed", 12, x.cost());
        due.is("rescue: LINK 1 does not matter", NONE, x.rescue(1, 0));
        due.is("rescue: NONE of WEIGHT", NONE, x.rescue(1, 1));
        due.is("rescue: NONE of COST", NONE, x.rescue(1, 2));
        x.turn(0, 0);
        due.is("rescue: it is DOWN", NO, x.rescue(0, 0));
        due.is("rescue: BAD ahead of NO", BAD, x.rescue(0, 3));
        due.is("rescue: the only other one does not help", NONE, x.rescue(1, 2));
        due.is("rescue of the only LINK", NONE, Due.laid("n2;l0,1,1,1;d0,1,1;").rescue(0, 0));
        // TABU is not heeded: here 1, 3, 3 is, and LINK 1 as 3 is the rescue for LINK 0 all the same.
        LoadWeights y = Due.laid("n2;l0,1,9,1;l0,1,1,2;l0,1,1,3;d0,1,1;");
        y.move(1, 3);
        y.step(1);
        y.move(0, 1);
        y.move(1, 2);
        due.is("rescue: it is TABU", 1, y.tabu(1, 3));
        due.is("rescue: LINK", 1, y.rescue(0, 0));
        due.is("rescue: WEIGHT, be it TABU", 3, y.rescue(0, 1));
    }

    // Promise 19
    private static void count() {
        String text = "n3;l0,1,1,1;l0,1,1,1;l1,0,1,5;d0,1,2;d0,1,1;d1,0,1;d0,2,1;";
        LoadWeights x = Due.laid(text);
        for (int what : new int[] {LOW, -1, 11, HIGH}) {
            due.is("count(" + what + ")", BAD, () -> x.count(what));
        }
        due.is("count: NODES", 3, x.count(0));
        due.is("count: LINKS", 3, x.count(1));
        due.is("count: DEMANDS", 4, x.count(2));
        due.is("count: DOWN", 0, x.count(3));
        due.is("count: LOST", 1, x.count(4));
        // 18 by LINKS 0, 1 are more than 12, 12 by LINK 2 are not.
        due.is("count: full", 2, x.count(5));
        due.is("count: LEAST COST", 2 * (116 + 3000) + 116 + 12000, x.count(6));
        int mark = ((31 * ((31 * (31 * 7 + 1)) % 997 + 1)) % 997 + 5) % 997;
        due.is("count: MARK", mark, x.count(7));
        due.is("count: TABU", 0, x.count(8));
        due.is("count: changes", 0, x.count(9));
        due.is("count: letters", text.length(), x.count(10));
        x.turn(0, 0);
        x.turn(2, 0);
        due.is("count: two are DOWN", 2, x.count(3));
        due.is("count: two are LOST", 2, x.count(4));
        due.is("count: one is full", 1, x.count(5));
        due.is("count: LEAST COST stays", 2 * (116 + 3000) + 116 + 12000, x.count(6));
        due.is("count: MARK stays", mark, x.count(7));
        due.is("count: two changes", 2, x.count(9));
        x.move(2, 6);
        due.is("count: MARK of other WEIGHTS", (mark + 1) % 997, x.count(7));
        due.is("count: MARK of the first net", 107, new LoadWeights().count(7));
    }
}
