import java.util.LinkedHashMap;
import java.util.List;
import java.util.Map;
import java.util.function.ToIntFunction;

/**
 * Promises 1 to 5 and what 'Terms' says of THE TEXT, at the edges: one method for each case
 * that a sentence of the document names.
 */
public final class TextEdgesTest {
    private static final int BAD = -1, NO = -2, FULL = -3, NONE = -4;
    private static final int LOW = Integer.MIN_VALUE, HIGH = Integer.MAX_VALUE;
    private static final String FIRST =
        "n5;l0,1,10,2;l1,4,8,2;l0,2,9,1;l2,4,6,3;l0,3,20,4;l3,4,20,4;l2,1,5,1;d0,4,12;d2,4,5;";
    private static final String LINK = "l0,1,1,1;", DEMAND = "d0,1,1;";
    /** 200 letters: as many ITEMS as there may be, all numbers as great as they may be. */
    private static final String WHOLE =
        "n7;".repeat(4) + "n07;".repeat(2) + "l0,6,99,20;".repeat(12) + "d0,6,99;".repeat(6);

    private static final Due due = new Due();

    public static void main(String[] args) {
        newObject();
        letters();
        fullText();
        wiped();
        textOf200Letters();
        emptyText();
        numberOfNodes();
        nodesOfItems();
        roomWeightSize();
        figures();
        howManyNumbers();
        everyLetterInEveryPlace();
        itemWithoutItsEnd();
        nodesBehindOthers();
        lastNodesCount();
        oneTooMany();
        firstOfSeveralFaults();
        laidNeedsBoth();
        laidAnswersLinks();
        laidBeginsAnew();
        laidTellsWhatThereIs();
        refusedLayChangesNothing();
        toldButNotLaid();
        due.end("TextEdgesTest");
    }

    private static void fault(String text, int want) {
        LoadWeights x = new LoadWeights();
        Due.write(x, text);
        due.is("fault() of " + text, want, x.fault());
        due.is("count(10) of " + text, text.length(), x.count(10));
        if (want != NONE) {
            due.is("lay() of " + text, NO, x.lay());
        }
    }

    /** An ITEM that is so, or is not so: alone, ahead of others and behind others. */
    private static void item(String item, boolean isSo) {
        fault(item, isSo ? NONE : 0);
        fault(item + LINK + DEMAND, isSo ? NONE : 0);
        String ahead = item.startsWith("n") ? "n3;" : LINK + DEMAND;
        fault(ahead + item, isSo ? NONE : ahead.length());
    }

    // ---- Promise 1: "As told; THE TEXT is empty."

    private static void newObject() {
        Asked.same(due, "new: as LAID of its TEXT", laidAndWiped(FIRST), new LoadWeights());
        LoadWeights x = new LoadWeights();
        LoadWeights other = new LoadWeights();
        Due.write(other, "n2;" + LINK + DEMAND);
        other.move(0, 9);
        other.step(3);
        other.turn(1, 0);
        other.lay();
        Asked.same(due, "new: another object's calls do not matter", laidAndWiped(FIRST), x);
        due.is("new: nor for one that is made later", 26064, new LoadWeights().cost());
        due.is("new: none is UNDONE", NO, new LoadWeights().undo());
        due.is("new: no TEXT to be LAID", NO, new LoadWeights().lay());
        due.is("new: THE TEXT is empty", 0, new LoadWeights().wipe());
    }

    private static LoadWeights laidAndWiped(String text) {
        LoadWeights x = Due.laid(text);
        x.wipe();
        return x;
    }

    // ---- Promise 2: "A letter (32 to 126, as in ASCII) .. BAD; FULL: it has 200."

    private static void letters() {
        LoadWeights x = new LoadWeights();
        int[] bad = {LOW, LOW + 32, -65504, -224, -32, -1, 0, 9, 10, 31, 127, 128, 160, 255, 256 + 'n', 65536 + 'n', HIGH};
        for (int letter : bad) {
            due.is("write(" + letter + ")", BAD, x.write(letter));
            due.is("write(" + letter + "): nothing came", 0, x.count(10));
        }
        for (int letter = 32; letter <= 126; letter++) {
            due.is("write(" + letter + ")", letter - 31, x.write(letter));
        }
        due.is("write: 95 letters came", 95, x.wipe());
    }

    private static void fullText() {
        LoadWeights x = new LoadWeights();
        Due.write(x, WHOLE.substring(0, 198));
        due.is("letter 199", 199, x.write(WHOLE.charAt(198)));
        due.is("letter 200", 200, x.write(WHOLE.charAt(199)));
        due.is("letter 201", FULL, x.write(';'));
        due.is("letter 201 again", FULL, x.write(32));
        due.is("letter 201, the greatest", FULL, x.write(126));
        due.is("a letter below 32: BAD ahead of FULL", BAD, x.write(31));
        due.is("a letter above 126: BAD ahead of FULL", BAD, x.write(127));
        due.is("FULL: 200 it has", 200, x.count(10));
        due.is("FULL: none of what was refused came", NONE, x.fault());
        due.is("FULL: THE TEXT is LAID", 12, x.lay());
        due.is("FULL: still, behind LAID", FULL, x.write('n'));
        due.is("FULL: wiped", 200, x.wipe());
        due.is("FULL no more", 1, x.write('n'));
    }

    // ---- Promise 3: "THE TEXT is empty: how long it was."

    private static void wiped() {
        LoadWeights x = new LoadWeights();
        due.is("wipe() of none", 0, x.wipe());
        x.write(' ');
        due.is("wipe() of one", 1, x.wipe());
        due.is("wipe() again", 0, x.wipe());
        due.is("wipe: no FAULT is left", NONE, x.fault());
        LoadWeights changed = Due.laid(FIRST);
        LoadWeights wiped = Due.laid(FIRST);
        for (LoadWeights y : new LoadWeights[] {changed, wiped}) {
            y.step(2);
            y.move(0, 9);
            y.turn(3, 0);
        }
        wiped.wipe();
        due.is("wipe: changes stay", 3, wiped.count(9));
        due.is("wipe: MARKS stay", 2, wiped.count(8));
        Due.write(wiped, FIRST);
        Asked.same(due, "wipe: all but THE TEXT stays", changed, wiped);
    }

    // ---- 'Terms': "THE TEXT is letters (200 at most)"

    private static void textOf200Letters() {
        due.is("this TEXT has", 200, WHOLE.length());
        LoadWeights x = Due.laid(WHOLE);
        due.is("200 letters: NODES", 7, x.count(0));
        due.is("200 letters: LINKS", 12, x.count(1));
        due.is("200 letters: DEMANDS", 6, x.count(2));
        due.is("200 letters: letters", 200, x.count(10));
        for (int l = 0; l < 12; l++) {
            due.is("200 letters: from", 0, x.link(l, 0));
            due.is("200 letters: to", 6, x.link(l, 1));
            due.is("200 letters: ROOM", 99, x.link(l, 2));
            due.is("200 letters: WEIGHT", 20, x.link(l, 3));
            due.is("200 letters: 6 times 99 by each", 594, x.link(l, 5));
            due.is("200 letters: 396 at 1, 198 at 3", 990, x.link(l, 6));
            due.is("200 letters: for 6 DEMANDS", 6, x.link(l, 7));
        }
        due.is("200 letters: COST", 12 * 990, x.cost());
        fault(WHOLE.substring(0, 199), 192);
        fault(WHOLE.substring(0, 199) + "9", 192);
        fault(WHOLE.substring(0, 199) + " ", 192);
        fault(WHOLE.substring(0, 192) + ";".repeat(8), 192);
        fault(" ".repeat(200), 0);
        fault("n2;".repeat(66) + "n2", 198);
        fault("n2;".repeat(65) + "n02;" + ";", 199);
    }

    private static void emptyText() {
        fault("", NONE);
        due.is("empty: it is not LAID", NO, new LoadWeights().lay());
        fault(";", 0);
        fault(";;", 0);
        fault("n2;;", 3);
        fault(LINK + ";", 9);
        fault(";" + LINK, 0);
        fault(" ", 0);
        fault(LINK + " ", 9);
        fault(LINK + " " + DEMAND, 9);
    }

    // ---- 'Terms': "NODES 0 to n - 1 (n 2 to 7)"

    private static void numberOfNodes() {
        for (int n = 0; n <= 99; n++) {
            item("n" + n + ";", n >= 2 && n <= 7);
        }
        item("n01;", false);
        item("n02;", true);
        item("n07;", true);
        item("n08;", false);
        item("n100;", false);
        item("n002;", false);
        item("n-2;", false);
    }

    /** A NODE of a LINK or a DEMAND is one that there is, and the two are not the same. */
    private static void nodesOfItems() {
        for (int n = 2; n <= 7; n++) {
            String ahead = "n" + n + ";";
            for (int a = 0; a <= 9; a++) {
                for (int b = 0; b <= 9; b++) {
                    int want = a < n && b < n && a != b ? NONE : 3;
                    fault(ahead + "l" + a + "," + b + ",1,1;", want);
                    fault(ahead + "d" + a + "," + b + ",1;", want);
                }
            }
            fault(ahead + "l0,99,1,1;", 3);
            fault(ahead + "d99,0,1;", 3);
        }
        fault("l3,0,1,1;", NONE);
        fault("l0,4,1,1;", 0);
        fault("d0,3,1;", NONE);
        fault("d4,0,1;", 0);
        fault("l01,1,1,1;", 0);
        fault("d1,01,1;", 0);
    }

    // ---- 'Terms': "a ROOM (1 to 99) and a WEIGHT (1 to 20)", "of a SIZE (1 to 99)"

    private static void roomWeightSize() {
        for (int v = 0; v <= 100; v++) {
            item("l0,1," + v + ",1;", v >= 1 && v <= 99);
            item("l0,1,1," + v + ";", v >= 1 && v <= 20);
            item("d0,1," + v + ";", v >= 1 && v <= 99);
        }
        item("l0,1,00,1;", false);
        item("l0,1,1,00;", false);
        item("d0,1,00;", false);
        LoadWeights x = Due.laid("l0,1,99,20;l0,1,1,1;d0,1,99;");
        due.is("ROOM 99", 99, x.link(0, 2));
        due.is("WEIGHT 20", 20, x.link(0, 3));
        due.is("ROOM 1", 1, x.link(1, 2));
        due.is("WEIGHT 1", 1, x.link(1, 3));
        due.is("SIZE 99", 1188, x.share(0, 1));
    }

    // ---- 'Terms': "numbers have one or two figures"

    private static void figures() {
        String[][] numbers = { // in each place what is ahead of it, behind it
            {"n", ";"}, {"l", ",0,1,1;"}, {"l0,", ",1,1;"}, {"l0,1,", ",1;"}, {"l0,1,1,", ";"},
            {"d", ",0,1;"}, {"d0,", ",1;"}, {"d0,1,", ";"},
        };
        for (String[] at : numbers) {
            item(at[0] + "2" + at[1], true);
            item(at[0] + "02" + at[1], true);
            String[] others = {"", "002", "000", "100", "2 ", " 2", "+2", "-2", "2.", "0x2", "2a", "a", "2,", ",2", "\"2\""};
            for (String wrong : others) {
                item(at[0] + wrong + at[1], false);
            }
        }
        // Where 0 would be a NODE, no figure is none all the same.
        for (String none : new String[] {"l,1,1,1;", "l1,,1,1;", "d,1,1;", "d1,,1;", "l1,;", "d1;"}) {
            item(none, false);
        }
        fault("l00,01,01,01;d01,00,01;", NONE);
        fault("n07;l06,05,09,20;d06,05,09;", NONE);
    }

    /** nN, lA,B,R,W and dA,B,S: not one number less, not one more. */
    private static void howManyNumbers() {
        String[] numbers = {"", "2", "2,1", "2,1,1", "2,1,1,1", "2,1,1,1,1", "2,1,1,1,1,1"};
        for (int i = 0; i < numbers.length; i++) {
            item("n" + numbers[i] + ";", i == 1);
            item("l" + numbers[i] + ";", i == 4);
            item("d" + numbers[i] + ";", i == 3);
        }
    }

    private static void everyLetterInEveryPlace() {
        for (char c = 32; c <= 126; c++) {
            boolean isFigure = c >= '0' && c <= '9';
            item(c + "2;", c == 'n');
            item(c + "0,1,1,1;", c == 'l');
            item(c + "0,1,1;", c == 'd');
            fault("l0" + c + "1,9,9;", c == ',' ? NONE : 0);
            fault("l0,1,9" + c + "9;", c == ',' ? NONE : 0);
            fault("d0,1" + c + "1;", c == ',' ? NONE : 0);
            fault("d0,1,9" + c, c == ';' ? NONE : 0);
            fault("d0,1,9" + c + ";", isFigure ? NONE : c == ';' ? 7 : 0);
            fault("l0,1,9,1" + c, c == ';' ? NONE : 0);
            fault("n2;" + c, 3);
        }
    }

    // ---- 'Terms': "ITEMS one behind the other, a ; behind each"

    private static void itemWithoutItsEnd() {
        String text = "n4;" + LINK + DEMAND;
        int[] starts = {0, 3, 12};
        for (int length = 1; length < text.length(); length++) {
            int start = length < 3 ? starts[0] : length < 12 ? starts[1] : starts[2];
            boolean isWhole = length == 3 || length == 12;
            fault(text.substring(0, length), isWhole ? NONE : start);
        }
        fault("l0,1,1,1d0,1,1;", 0);
        fault("l0,1,1,1,d0,1,1;", 0);
        fault("n2,l0,1,1,1;", 0);
    }

    // ---- 'Terms': "nN N NODES (no other ITEM ahead of it but n, of which the last one counts; 4 without)"

    private static void nodesBehindOthers() {
        fault(LINK + "n4;", 9);
        fault(DEMAND + "n4;", 7);
        fault("n4;" + LINK + "n4;", 12);
        fault("n4;" + DEMAND + "n4;", 10);
        fault("n4;n4;" + LINK + DEMAND + "n5;", 22);
        fault("n2;n3;n4;", NONE);
    }

    private static void lastNodesCount() {
        fault("n2;n7;l6,5,1,1;", NONE);
        fault("n7;n2;l6,5,1,1;", 6);
        fault("n7;n2;l1,0,1,1;", NONE);
        due.is("the last n counts", 3, Due.laid("n7;n2;n3;" + LINK + DEMAND).count(0));
        due.is("4 without", 4, Due.laid(LINK + DEMAND).count(0));
        LoadWeights x = Due.laid("n7;" + LINK + DEMAND);
        x.wipe();
        Due.write(x, LINK + DEMAND);
        due.is("4 without, though 7 were LAID", 1, x.lay());
        due.is("4 without: NODES", 4, x.count(0));
        fault("n8;l6,5,1,1;", 0);
    }

    // ---- 'Terms': "LINKS 0, 1, .. (12 at most)", "DEMANDS 0, 1, .. (6 at most)", "(or is one too many)"

    private static void oneTooMany() {
        fault(LINK.repeat(12), NONE);
        fault(LINK.repeat(13), 108);
        fault(LINK.repeat(14), 108);
        fault(LINK.repeat(12) + DEMAND.repeat(6), NONE);
        fault(LINK.repeat(12) + DEMAND.repeat(6) + LINK, 150);
        fault(DEMAND.repeat(6), NONE);
        fault(DEMAND.repeat(7), 42);
        fault(DEMAND.repeat(8), 42);
        fault(DEMAND.repeat(6) + LINK.repeat(12), NONE);
        fault(DEMAND.repeat(6) + LINK.repeat(12) + DEMAND, 150);
        fault((DEMAND + LINK + LINK).repeat(6), NONE);
        fault((DEMAND + LINK + LINK).repeat(6) + DEMAND, 150);
        fault((DEMAND + LINK + LINK).repeat(6) + LINK, 150);
        LoadWeights x = new LoadWeights();
        Due.write(x, LINK.repeat(13) + DEMAND);
        due.is("a 13th LINK is not LAID", NO, x.lay());
        due.is("a 13th LINK: the net stays", 7, x.count(1));
        x.wipe();
        Due.write(x, LINK + DEMAND.repeat(7));
        due.is("a 7th DEMAND is not LAID", NO, x.lay());
        due.is("a 7th DEMAND: the net stays", 2, x.count(2));
    }

    // ---- 'Terms': "FAULT: the place (from 0 on) of the first letter of the first ITEM that is not so"

    private static void firstOfSeveralFaults() {
        fault("x;y;", 0);
        fault("n4;x;y;", 3);
        fault("n4;" + LINK + "l0,0,1,1;n4;d", 12);
        fault(LINK.repeat(12) + "l0,0,1,1;x;", 108);
        fault("l0,0,1,1;" + LINK.repeat(13), 0);
        fault(LINK + "d0,0,1;" + LINK.repeat(13), 9);
        fault(LINK + "n4;" + "x", 9);
        // An ITEM that is not so is no LINK that counts, but nothing behind it is told.
        fault("l4,0,1,1;n7;", 0);
    }

    // ---- Promise 5: "LAID: how many LINKS. NO."; 'Terms': "with a LINK and a DEMAND at least (NO else ..)"

    private static void laidNeedsBoth() {
        String[] texts = {"", "n2;", "n7;n2;", LINK, LINK.repeat(12), "n2;" + LINK, DEMAND, DEMAND.repeat(6), "n2;" + DEMAND};
        for (String text : texts) {
            LoadWeights x = new LoadWeights();
            Due.write(x, text);
            due.is("no FAULT in " + text, NONE, x.fault());
            due.is("lay() of " + text, NO, x.lay());
        }
        due.is("a LINK and a DEMAND are enough", 1, Due.laid(LINK + DEMAND).count(1));
        due.is("a DEMAND and a LINK, too", 1, Due.laid(DEMAND + LINK).count(2));
    }

    private static void laidAnswersLinks() {
        for (int links = 1; links <= 12; links++) {
            LoadWeights x = new LoadWeights();
            Due.write(x, "n2;" + LINK.repeat(links) + DEMAND);
            due.is("lay() of " + links + " LINKS", links, x.lay());
            due.is("lay() of " + links + " LINKS again", links, x.lay());
            due.is(links + " LINKS", links, x.count(1));
        }
        for (int demands = 1; demands <= 6; demands++) {
            LoadWeights x = Due.laid("n2;" + LINK + DEMAND.repeat(demands));
            due.is(demands + " DEMANDS", demands, x.count(2));
        }
    }

    private static void laidBeginsAnew() {
        String text = "n2;l0,1,1,1;l0,1,1,3;d0,1,1;";
        LoadWeights x = Due.laid(text);
        x.step(3);
        x.step(3);
        x.step(1);
        x.move(1, 20);
        x.turn(0, 0);
        x.turn(1, 0);
        x.move(0, 20);
        x.turn(1, 1);
        due.is("laid: six changes ahead", 6, x.count(9));
        due.is("laid: six MARKS ahead", 6, x.count(8));
        due.is("laid again", 2, x.lay());
        Asked.same(due, "laid again: as for the first time", Due.laid(text), x);
        due.is("laid: none can be UNDONE", NO, x.undo());
        due.is("laid: the LEAST COST is that of now, though 20 was less", 116, x.count(6));
        due.is("laid: no MARK is TABU", 0, x.tabu(0, 1));
        due.is("laid: a STEP", 20, x.step(1));
        due.is("laid: one change", 1, x.count(9));
        due.is("laid: one MARK", 1, x.count(8));
        due.is("laid: it is that of the first WEIGHTS", 1, x.tabu(0, 1));
        due.is("laid: two STEPS more", 20, x.step(2));
        LoadWeights fresh = Due.laid(text);
        fresh.step(1);
        fresh.step(2);
        Asked.same(due, "laid again: STEPS as for the first time", fresh, x);
        due.is("laid: UNDONE", 1, x.undo());
        due.is("laid: UNDONE", 0, x.undo());
        due.is("laid: nothing that was ahead of it", NO, x.undo());
    }

    // ---- "NODES, LINKS, DEMANDS such as there are": by what is LAID

    private static void laidTellsWhatThereIs() {
        LoadWeights x = new LoadWeights();
        due.is("NODE 4 of the first net", 0, x.far(4, 4));
        due.is("LINK 6", 1, x.link(6, 3));
        due.is("DEMAND 1", 30, x.share(1, 3));
        Due.write(x, "n2;" + LINK + DEMAND);
        due.is("only told, not LAID", 1, x.link(6, 3));
        x.lay();
        due.is("no NODE 2", BAD, x.far(2, 2));
        due.is("NODE 1", 0, x.far(1, 1));
        due.is("no LINK 1", BAD, x.link(1, 3));
        due.is("no LINK 1 to be MOVED", BAD, x.move(1, 3));
        due.is("LINK 0", 1, x.link(0, 3));
        due.is("no DEMAND 1", BAD, x.share(1, 0));
        due.is("DEMAND 0", 12, x.share(0, 0));
        x.wipe();
        Due.write(x, WHOLE);
        x.lay();
        due.is("NODE 6", 0, x.far(6, 6));
        due.is("LINK 11", 20, x.link(11, 3));
        due.is("DEMAND 5", 99, x.share(5, 11));
        due.is("no NODE 7", BAD, x.far(7, 7));
        due.is("no LINK 12", BAD, x.link(12, 3));
        due.is("no DEMAND 6", BAD, x.share(6, 0));
    }

    private static void refusedLayChangesNothing() {
        String both = LINK + DEMAND;
        for (String text : new String[] {"", "n7;", LINK, DEMAND, both + "x", both + "n4;", "n7;" + both + "d0,0,1;"}) {
            LoadWeights want = changed(text);
            LoadWeights got = changed(text);
            due.is("lay() of " + text, NO, got.lay());
            Asked.same(due, "lay() NO of " + text, want, got);
            for (int left = 2; left >= 0; left--) {
                due.is("lay() NO: what can be UNDONE still can", left, got.undo());
                want.undo();
            }
            due.is("lay() NO: COST", want.cost(), got.cost());
            due.is("lay() NO: then a STEP", want.step(1), got.step(1));
            due.is("lay() NO: the WEIGHT", want.count(7), got.count(7));
        }
    }

    private static LoadWeights changed(String text) {
        LoadWeights x = new LoadWeights();
        Due.write(x, text);
        x.step(2);
        x.turn(0, 0);
        x.move(3, 9);
        return x;
    }

    // ---- "All that is asked is told of all as it stands then": by the net that is LAID, not by the one THE TEXT tells

    private static void toldButNotLaid() {
        String less = "n2;l1,0,3,9;d1,0,7;";
        String more = WHOLE.substring(0, 191);
        List<ToIntFunction<LoadWeights>> reading = List.of(LoadWeights::fault, LoadWeights::lay, x -> x.lay() + x.fault());
        for (ToIntFunction<LoadWeights> read : reading) {
            for (String text : new String[] {less + "x", more}) {
                ofTheFirstNet().forEach((call, want) -> due.is("first net, told " + text + ": " + call.name(), want,
                    call.call().applyAsInt(told(text, read))));
                evenedByTheFirstNet(told(text, read));
            }
        }
        LoadWeights whole = told(less, LoadWeights::fault);
        due.is("only asked for its FAULT", 7, whole.count(1));
        due.is("now LAID", 1, whole.lay());
        due.is("now it is that net", 3, whole.link(0, 2));
        due.is("now LINK 1 is none", BAD, whole.link(1, 2));
    }

    private static LoadWeights told(String text, ToIntFunction<LoadWeights> read) {
        LoadWeights x = new LoadWeights();
        Due.write(x, text);
        read.applyAsInt(x);
        return x;
    }

    private record Call(String name, ToIntFunction<LoadWeights> call) { }

    private static Map<Call, Integer> ofTheFirstNet() {
        Map<Call, Integer> answers = new LinkedHashMap<>();
        int[] link6 = {2, 1, 5, 1, 1, 66, 3580, 2};
        int[] counts = {5, 7, 2, 0, 0, 2, 26064, 107, 0, 0};
        for (int i = 0; i < link6.length; i++) {
            int what = i;
            answers.put(new Call("link(6, " + what + ")", x -> x.link(6, what)), link6[i]);
        }
        for (int i = 0; i < counts.length; i++) {
            int what = i;
            answers.put(new Call("count(" + what + ")", x -> x.count(what)), counts[i]);
        }
        answers.put(new Call("far(0, 4)", x -> x.far(0, 4)), 4);
        answers.put(new Call("far(3, 3)", x -> x.far(3, 3)), 0);
        answers.put(new Call("far(4, 0)", x -> x.far(4, 0)), NONE);
        answers.put(new Call("share(0, 1)", x -> x.share(0, 1)), 108);
        answers.put(new Call("share(1, 3)", x -> x.share(1, 3)), 30);
        answers.put(new Call("cost()", LoadWeights::cost), 26064);
        answers.put(new Call("tabu(6, 1)", x -> x.tabu(6, 1)), 0);
        answers.put(new Call("best(0)", x -> x.best(0)), 4);
        answers.put(new Call("best(1)", x -> x.best(1)), 1);
        answers.put(new Call("best(2)", x -> x.best(2)), 26064);
        answers.put(new Call("worst(0)", x -> x.worst(0)), 3);
        answers.put(new Call("worst(1)", x -> x.worst(1)), 91788);
        answers.put(new Call("rescue(0, 0)", x -> x.rescue(0, 0)), 2);
        answers.put(new Call("rescue(0, 2)", x -> x.rescue(0, 2)), 666);
        answers.put(new Call("rescue(6, 0)", x -> x.rescue(6, 0)), NONE);
        answers.put(new Call("move(6, 2)", x -> x.move(6, 2)), 1);
        answers.put(new Call("turn(4, 0)", x -> x.turn(4, 0)), 26064);
        // LINKS 0 and 2 are as they would be; LINK 4 ends in 3, from where there is no way to 1.
        answers.put(new Call("even(0, 1)", x -> x.even(0, 1)), NO);
        answers.put(new Call("step(1)", x -> x.step(1)), 26064);
        // No LINK 7, no NODE 5, no DEMAND 2 is there, though the greater TEXT tells them.
        answers.put(new Call("link(7, 0)", x -> x.link(7, 0)), BAD);
        answers.put(new Call("move(7, 1)", x -> x.move(7, 1)), BAD);
        answers.put(new Call("turn(7, 0)", x -> x.turn(7, 0)), BAD);
        answers.put(new Call("tabu(7, 1)", x -> x.tabu(7, 1)), BAD);
        answers.put(new Call("rescue(7, 0)", x -> x.rescue(7, 0)), BAD);
        answers.put(new Call("share(0, 7)", x -> x.share(0, 7)), BAD);
        answers.put(new Call("share(2, 0)", x -> x.share(2, 0)), BAD);
        answers.put(new Call("far(5, 4)", x -> x.far(5, 4)), BAD);
        answers.put(new Call("far(0, 5)", x -> x.far(0, 5)), BAD);
        answers.put(new Call("even(5, 4)", x -> x.even(5, 4)), BAD);
        answers.put(new Call("even(0, 5)", x -> x.even(0, 5)), BAD);
        return answers;
    }

    private static void evenedByTheFirstNet(LoadWeights x) {
        due.is("first net: even(0, 4)", 3, x.even(0, 4));
        int[] weights = {3, 2, 2, 3, 1, 4, 1};
        for (int l = 0; l < weights.length; l++) {
            due.is("first net: WEIGHT of LINK " + l, weights[l], x.link(l, 3));
        }
        due.is("first net: COST", 4536, x.cost());
    }
}
