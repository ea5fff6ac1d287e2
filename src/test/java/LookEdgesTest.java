import java.math.BigInteger;
import java.util.List;
import java.util.function.ToIntFunction;

/**
 * Promises 11 to 15 and 19 and what 'Terms' says of FAR, SHORT, TWELFTHS, LOAD, COST and MARK,
 * at the edges: one method for each case that a sentence of the document names.
 */
public final class LookEdgesTest {
    private static final int BAD = -1, NONE = -4;
    private static final int LOW = Integer.MIN_VALUE, HIGH = Integer.MAX_VALUE;
    private static final int LOAD = 5, COST = 6, SHORT = 7;

    private static final String ONE = "n2;l0,1,1,1;d0,1,1;";
    private static final String TWELVE = "n7;" + "l0,6,9,1;".repeat(12) + "d0,6,1;".repeat(6);
    /** COST of 0, 1, .. TWELFTHS by a LINK of ROOM 1. */
    private static final int[] BY_ROOM_1 = {0, 1, 2, 3, 4, 7, 10, 13, 16, 26, 36, 46, 116, 616, 1116, 1616};

    private static final Due due = new Due();

    public static void main(String[] args) {
        linkNumbers();
        shortFor();
        shortByOne();
        farNumbers();
        farOfItself();
        farWithoutAWay();
        farthest();
        shareNumbers();
        cutShares();
        whatIsLeftGoesByTheFirst();
        lessThanThereAreLinks();
        metAheadOfGoingOn();
        overNodeZero();
        goalKeepsAll();
        lost();
        lostByATurn();
        piecesByRoom1();
        piecesByEveryRoom();
        overfull();
        costOfAll();
        tabuNumbers();
        markAtItsModulus();
        markZeroIsNotTabuAtFirst();
        markOfTwelve();
        countNumbers();
        askedAtOnce();
        due.end("LookEdgesTest");
    }

    private static void shares(String why, LoadWeights x, int d, int... want) {
        for (int l = 0; l < want.length; l++) {
            due.is(why + ": share(" + d + ", " + l + ")", want[l], x.share(d, l));
        }
    }

    // ---- Promise 11: "Of a LINK: from (what = 0) .. (7 ..). BAD."

    private static void linkNumbers() {
        LoadWeights one = Due.laid(ONE);
        LoadWeights all = Due.laid(TWELVE);
        int[] first = {0, 1, 1, 1, 1, 12, 116, 1};
        int[] last = {0, 6, 9, 1, 1, 6, 6, 6};
        for (int what = 0; what <= 7; what++) {
            due.is("link(0, " + what + ") of one", first[what], one.link(0, what));
            due.is("link(11, " + what + ") of twelve", last[what], all.link(11, what));
            due.is("link(-1, " + what + ")", BAD, one.link(-1, what));
            due.is("link(1, " + what + ") of one", BAD, one.link(1, what));
            due.is("link(12, " + what + ") of twelve", BAD, all.link(12, what));
            due.is("link(LOW, " + what + ")", BAD, all.link(LOW, what));
            due.is("link(HIGH, " + what + ")", BAD, all.link(HIGH, what));
        }
        for (int what : new int[] {LOW, -8, -1, 8, 9, 256, HIGH}) {
            due.is("link(0, " + what + ")", BAD, one.link(0, what));
            due.is("link(11, " + what + ")", BAD, all.link(11, what));
        }
    }

    /** "for how many DEMANDS that are not LOST it is SHORT (7; for where they go, whether they come by it or not)" */
    private static void shortFor() {
        // SHORT for 2 are LINKS 0, 1 and, though nothing comes by it, LINK 2 from 3. From 4 there is no way.
        LoadWeights x = Due.laid("n5;l0,1,9,1;l1,2,9,1;l3,1,9,1;d0,2,1;d1,2,1;d0,2,1;d4,2,1;");
        due.is("SHORT: LINK 0", 3, x.link(0, SHORT));
        due.is("SHORT: LINK 1", 3, x.link(1, SHORT));
        due.is("SHORT: LINK 2, by which none comes", 3, x.link(2, SHORT));
        due.is("SHORT: it bears nothing", 0, x.link(2, LOAD));
        due.is("SHORT: it costs nothing", 0, x.link(2, COST));
        x.turn(2, 0);
        due.is("SHORT: DOWN for none", 0, x.link(2, SHORT));
        x.turn(2, 1);
        x.turn(0, 0);
        // From 0 there is no way any more: two more are LOST, but LINKS 1, 2 are SHORT for that of 1.
        due.is("SHORT: LINK 0 is DOWN", 0, x.link(0, SHORT));
        due.is("SHORT: LINK 1 for one", 1, x.link(1, SHORT));
        due.is("SHORT: LINK 2 for one", 1, x.link(2, SHORT));
        due.is("SHORT: three are LOST", 3, x.count(4));
        LoadWeights lost = Due.laid("n4;l0,1,9,1;l2,3,9,1;d0,1,1;d0,3,1;");
        due.is("SHORT: for a goal of a LOST one alone", 0, lost.link(1, SHORT));
        LoadWeights from = Due.laid("n3;l0,1,9,1;l1,0,9,1;l1,2,9,1;d0,1,1;");
        due.is("SHORT: not from where it goes", 0, from.link(1, SHORT));
        due.is("SHORT: nor to where there is no way", 0, from.link(2, SHORT));
    }

    /** "A LINK is SHORT for t, if .. FAR of where it begins is its WEIGHT and FAR of where it ends together." */
    private static void shortByOne() {
        LoadWeights x = Due.laid("n3;l0,1,9,2;l1,2,9,3;l0,2,9,5;d0,2,1;");
        shares("as short", x, 0, 6, 6, 6);
        x.move(2, 6);
        shares("one longer", x, 0, 12, 12, 0);
        due.is("one longer: not SHORT", 0, x.link(2, SHORT));
        x.move(2, 4);
        shares("one shorter", x, 0, 0, 0, 12);
        due.is("one shorter: LINK 0 is not SHORT", 0, x.link(0, SHORT));
        due.is("one shorter: LINK 1 is", 1, x.link(1, SHORT));
    }

    // ---- Promise 12: "FAR of a NODE from t. BAD; NONE: there is no way."

    private static void farNumbers() {
        LoadWeights two = Due.laid(ONE);
        LoadWeights seven = Due.laid(TWELVE);
        for (int x : new int[] {LOW, -1, 2, 7, HIGH}) {
            due.is("far(" + x + ", 0) of two", BAD, two.far(x, 0));
            due.is("far(0, " + x + ") of two", BAD, two.far(0, x));
            due.is("far(" + x + ", " + x + ") of two", BAD, two.far(x, x));
        }
        for (int x : new int[] {LOW, -1, 7, 8, HIGH}) {
            due.is("far(" + x + ", 6) of seven", BAD, seven.far(x, 6));
            due.is("far(6, " + x + ") of seven", BAD, seven.far(6, x));
        }
        due.is("far(0, 6) of seven", 1, seven.far(0, 6));
        due.is("far(0, 1) of two", 1, two.far(0, 1));
    }

    private static void farOfItself() {
        LoadWeights x = Due.laid(TWELVE);
        for (int i = 0; i < 7; i++) {
            due.is("0 of t itself", 0, x.far(i, i));
        }
        for (int l = 0; l < 12; l++) {
            x.turn(l, 0);
        }
        due.is("0 of t itself, all DOWN", 0, x.far(0, 0));
        due.is("0 of t itself, all DOWN", 0, x.far(6, 6));
    }

    private static void farWithoutAWay() {
        LoadWeights x = Due.laid("n4;l0,1,9,2;l1,2,9,3;d0,2,1;");
        due.is("a way", 5, x.far(0, 2));
        due.is("none back", NONE, x.far(2, 0));
        due.is("none where no LINK is", NONE, x.far(0, 3));
        due.is("none from where no LINK is", NONE, x.far(3, 0));
        x.turn(0, 0);
        due.is("none by what is DOWN", NONE, x.far(0, 2));
        due.is("the rest of it is there", 3, x.far(1, 2));
        x.turn(0, 1);
        due.is("again", 5, x.far(0, 2));
    }

    private static void farthest() {
        LoadWeights row = Due.laid("n7;l3,4,1,20;l0,1,1,20;l5,6,1,20;l2,3,1,20;l4,5,1,20;l1,2,1,20;l0,6,1,1;l6,0,1,20;d0,6,1;");
        due.is("the least sum, though more LINKS would be there", 1, row.far(0, 6));
        row.turn(6, 0);
        due.is("six LINKS of 20", 120, row.far(0, 6));
        due.is("five of them", 100, row.far(1, 6));
        due.is("over the end", 120, row.far(1, 0));
        LoadWeights more = Due.laid("n7;l0,6,1,7;l0,1,1,1;l1,2,1,1;l2,3,1,1;l3,4,1,1;l4,5,1,1;l5,6,1,1;d0,6,1;");
        due.is("six LINKS are less than one", 6, more.far(0, 6));
        more.move(0, 6);
        due.is("as much", 6, more.far(0, 6));
        shares("as much: half by each", more, 0, 6, 6, 6, 6, 6, 6, 6);
    }

    // ---- Promise 13: "TWELFTHS of a DEMAND that go by a LINK. BAD."

    private static void shareNumbers() {
        LoadWeights one = Due.laid(ONE);
        LoadWeights all = Due.laid(TWELVE);
        for (int i : new int[] {LOW, -1, 1, 6, 12, HIGH}) {
            due.is("share(" + i + ", 0) of one", BAD, one.share(i, 0));
            due.is("share(0, " + i + ") of one", BAD, one.share(0, i));
        }
        for (int i : new int[] {LOW, -1, 12, HIGH}) {
            due.is("share(" + i + ", 0) of all", BAD, all.share(i, 0));
            due.is("share(0, " + i + ") of all", BAD, all.share(0, i));
        }
        due.is("share(6, 0) of all", BAD, all.share(6, 0));
        due.is("share(5, 11) of all", 1, all.share(5, 11));
        due.is("share(0, 0) of all", 1, all.share(0, 0));
        due.is("share(0, 0) of one", 12, one.share(0, 0));
    }

    // ---- 'Terms': "by each one what there is by k, cut, and 1 more by each of the first of them"

    private static void cutShares() {
        int[][] ofTwelve = { // 12 TWELFTHS by 1, 2, .. 12 LINKS
            {12}, {6, 6}, {4, 4, 4}, {3, 3, 3, 3}, {3, 3, 2, 2, 2}, {2, 2, 2, 2, 2, 2}, {2, 2, 2, 2, 2, 1, 1},
            {2, 2, 2, 2, 1, 1, 1, 1}, {2, 2, 2, 1, 1, 1, 1, 1, 1}, {2, 2, 1, 1, 1, 1, 1, 1, 1, 1},
            {2, 1, 1, 1, 1, 1, 1, 1, 1, 1, 1}, {1, 1, 1, 1, 1, 1, 1, 1, 1, 1, 1, 1},
        };
        for (int[] want : ofTwelve) {
            LoadWeights x = Due.laid("n2;" + "l0,1,9,5;".repeat(want.length) + "d0,1,1;");
            shares(want.length + " LINKS", x, 0, want);
        }
        // 99 times 12 are 1188: by 5 237 and 3 left, by 7 169 and 5 left, by 8 148 and 4 left.
        shares("99 by 5", Due.laid("n2;" + "l0,1,9,5;".repeat(5) + "d0,1,99;"), 0, 238, 238, 238, 237, 237);
        shares("99 by 7", Due.laid("n2;" + "l0,1,9,5;".repeat(7) + "d0,1,99;"), 0, 170, 170, 170, 170, 170, 169, 169);
        shares("99 by 8", Due.laid("n2;" + "l0,1,9,5;".repeat(8) + "d0,1,99;"), 0, 149, 149, 149, 149, 148, 148, 148, 148);
        // Each DEMAND is cut by itself: what is left of both goes by the first ones.
        LoadWeights two = Due.laid("n2;" + "l0,1,9,5;".repeat(5) + "d0,1,1;d0,1,1;");
        int[] loads = {6, 6, 4, 4, 4};
        for (int l = 0; l < 5; l++) {
            due.is("two DEMANDS: LOAD of LINK " + l, loads[l], two.link(l, LOAD));
        }
    }

    private static void whatIsLeftGoesByTheFirst() {
        // Of LINKS from 0 those that are SHORT are 1, 3, 4, 6, 7; 0 is longer, 2 leads elsewhere, 5 is DOWN.
        LoadWeights x = Due.laid("n3;l0,1,9,2;l0,1,9,1;l1,0,9,1;l0,1,9,1;l0,1,9,1;l0,1,9,1;l0,1,9,1;l0,1,9,1;d0,1,1;");
        x.turn(5, 0);
        shares("the first of those that are SHORT", x, 0, 0, 3, 0, 3, 2, 0, 2, 2);
        x.turn(1, 0);
        shares("by four", x, 0, 0, 0, 0, 3, 3, 0, 3, 3);
        x.turn(5, 1);
        shares("by five, others being the first", x, 0, 0, 0, 0, 3, 3, 2, 2, 2);
    }

    private static void lessThanThereAreLinks() {
        // By LINK 0 to 1 comes a sixth, 2; from there by three.
        LoadWeights x = Due.laid("n3;l0,1,9,1;" + "l0,2,9,2;".repeat(5) + "l1,2,9,1;".repeat(3) + "d0,2,1;");
        shares("2 by three", x, 0, 2, 2, 2, 2, 2, 2, 1, 1, 0);
        // By LINK 7, the last of eight, comes 1; from there by four.
        LoadWeights y = Due.laid("n3;" + "l0,2,9,2;".repeat(7) + "l0,1,9,1;" + "l1,2,9,1;".repeat(4) + "d0,2,1;");
        shares("1 by four", y, 0, 2, 2, 2, 2, 1, 1, 1, 1, 1, 0, 0, 0);
        due.is("0 TWELFTHS cost 0", 0, y.link(11, COST));
        due.is("SHORT for it all the same", 1, y.link(11, SHORT));
    }

    // ---- 'Terms': "NODE by NODE, that of greatest FAR from t .. first"

    private static void metAheadOfGoingOn() {
        // 6 come to 3 at once, 6 by 4 and 2: 12 are split there as one, though 3 is none of the last by number.
        LoadWeights x = Due.laid("n6;l0,3,9,3;l0,4,9,1;l4,2,9,1;l2,3,9,1;" + "l3,1,9,1;".repeat(5) + "d0,1,1;");
        shares("met in 3", x, 0, 6, 6, 6, 6, 3, 3, 2, 2, 2);
        // The same with NODES told the other way round.
        LoadWeights y = Due.laid("n6;l5,2,9,3;l5,1,9,1;l1,3,9,1;l3,2,9,1;" + "l2,4,9,1;".repeat(5) + "d5,4,1;");
        shares("met in 2", y, 0, 6, 6, 6, 6, 3, 3, 2, 2, 2);
        // Two NODES as FAR: both give to 3, which goes on with 3 + 3 and so on.
        LoadWeights z = Due.laid("n5;l0,1,9,1;l0,2,9,1;l1,3,9,1;l2,3,9,1;" + "l3,4,9,1;".repeat(5) + "d0,4,1;");
        shares("met from NODES as FAR", z, 0, 6, 6, 6, 6, 3, 3, 2, 2, 2);
    }

    private static void overNodeZero() {
        LoadWeights x = Due.laid("n3;l0,2,9,1;l1,0,9,1;d1,2,1;");
        shares("over NODE 0", x, 0, 12, 12);
        LoadWeights y = Due.laid("n7;l6,0,9,1;l0,5,9,1;l5,1,9,1;l1,2,9,1;d6,2,1;");
        shares("from 6 by 0, 5, 1 to 2", y, 0, 12, 12, 12, 12);
        LoadWeights z = Due.laid("n3;l2,1,9,1;l1,0,9,1;l2,0,9,2;d2,0,1;");
        shares("to NODE 0", z, 0, 6, 6, 6);
    }

    private static void goalKeepsAll() {
        LoadWeights x = Due.laid("n3;l0,1,9,1;l1,2,9,1;l1,0,9,1;d0,1,1;");
        shares("what has come there stays", x, 0, 12, 0, 0);
        LoadWeights inner = Due.laid("n4;l0,1,9,1;l1,2,9,1;l2,3,9,1;d1,2,1;");
        shares("from an inner NODE to another", inner, 0, 0, 12, 0);
    }

    // ---- 'Terms': "LOST is a DEMAND for which there is no way", "12000 times SIZE of each DEMAND that is LOST"

    private static void lost() {
        for (int size = 1; size <= 99; size++) {
            LoadWeights x = Due.laid("n3;l0,1,9,1;d0,2," + size + ";");
            due.is("LOST of SIZE " + size, 12000 * size, x.cost());
            due.is("LOST: one", 1, x.count(4));
            due.is("LOST: nothing goes, not as far as it could", 0, x.share(0, 0));
            due.is("LOST: no LOAD", 0, x.link(0, LOAD));
        }
        LoadWeights some = Due.laid("n3;l0,1,9,1;d0,2,3;d0,1,2;d1,0,4;");
        due.is("LOST: two of three", 2, some.count(4));
        due.is("LOST: those and what the third costs", 12000 * 7 + 24, some.cost());
        shares("LOST", some, 0, 0);
        shares("not LOST", some, 1, 24);
        shares("LOST", some, 2, 0);
        LoadWeights all = Due.laid("n3;l0,1,9,1;" + "d1,2,99;".repeat(6));
        due.is("LOST: six", 6, all.count(4));
        due.is("LOST: six of 99", 12000 * 99 * 6, all.cost());
        due.is("LOST: that is the LEAST COST", 12000 * 99 * 6, all.count(6));
    }

    private static void lostByATurn() {
        LoadWeights x = Due.laid("n3;l0,1,9,1;l1,2,9,1;d0,2,2;d0,1,1;");
        due.is("none is LOST", 0, x.count(4));
        due.is("one is LOST", 24000 + 12, x.turn(1, 0));
        due.is("one is LOST", 1, x.count(4));
        due.is("of it nothing goes", 0, x.share(0, 0));
        due.is("of the other all", 12, x.share(1, 0));
        due.is("both are LOST", 36000, x.turn(0, 0));
        due.is("both are LOST", 2, x.count(4));
        due.is("one still, without its first LINK", 36000, x.turn(1, 1));
        due.is("none", 36 + 24, x.turn(0, 1));
        due.is("none is LOST", 0, x.count(4));
    }

    // ---- 'Terms': "each of the first 4 R TWELFTHS costs 1, of the next 4 R 3 each, of the next 3 R 10, of the next R 70, .. 500"

    private static void piecesByRoom1() {
        boolean[] seen = new boolean[BY_ROOM_1.length];
        for (int links = 1; links <= 12; links++) {
            for (int size = 1; size <= 15; size++) {
                LoadWeights x = Due.laid("n2;" + "l0,1,1,1;".repeat(links) + "d0,1," + size + ";");
                for (int l = 0; l < links; l++) {
                    int load = x.link(l, LOAD);
                    if (load < BY_ROOM_1.length) {
                        seen[load] = true;
                        due.is("COST of " + load + " by ROOM 1", BY_ROOM_1[load], x.link(l, COST));
                    }
                }
            }
        }
        for (int load = 1; load < seen.length; load++) {
            due.is("a LINK that bears " + load, 1, seen[load] ? 1 : 0);
        }
        LoadWeights none = Due.laid("n2;l0,1,1,1;l0,1,1,2;d0,1,1;");
        due.is("COST of 0 by ROOM 1", 0, none.link(1, COST));
    }

    private static void piecesByEveryRoom() {
        int edges = 0;
        for (int room = 1; room <= 99; room++) {
            for (int size = 1; size <= 99; size++) {
                LoadWeights x = Due.laid("n2;" + ("l0,1," + room + ",1;").repeat(5) + "d0,1," + size + ";d0,1,99;");
                for (int l = 2; l <= 3; l++) {
                    int load = x.link(l, LOAD);
                    due.is("COST of " + load + " by ROOM " + room, byPieces(load, room), x.link(l, COST));
                    edges += isEdge(load, room) || isEdge(load - 1, room) ? 1 : 0;
                }
            }
        }
        due.is("LOADS at an edge were among them", 1, edges > 100 ? 1 : 0);
    }

    private static boolean isEdge(int load, int room) {
        return load == 4 * room || load == 8 * room || load == 11 * room || load == 12 * room;
    }

    private static int byPieces(int load, int room) {
        if (load <= 4 * room) {
            return load;
        }
        if (load <= 8 * room) {
            return 4 * room + 3 * (load - 4 * room);
        }
        if (load <= 11 * room) {
            return 16 * room + 10 * (load - 8 * room);
        }
        return load <= 12 * room ? 46 * room + 70 * (load - 11 * room) : 116 * room + 500 * (load - 12 * room);
    }

    // ---- Promise 19: "5 LINKS that bear more than 12 times their ROOM"

    private static void overfull() {
        due.is("12 by ROOM 1 is not more", 0, Due.laid(ONE).count(5));
        LoadWeights x = Due.laid("n2;" + "l0,1,1,1;".repeat(7) + "d0,1,7;");
        due.is("12 by each of seven", 0, x.count(5));
        // 96 by seven: 14 by five, 13 by two; the five have ROOM 2.
        LoadWeights y = Due.laid("n2;" + "l0,1,2,1;".repeat(5) + "l0,1,1,1;".repeat(2) + "d0,1,8;");
        due.is("13 by the last two", 13, y.link(6, LOAD));
        due.is("13 by ROOM 1 is more", 2, y.count(5));
        due.is("1188 by ROOM 99 is not more", 0, Due.laid("n2;l0,1,99,1;d0,1,99;").count(5));
        due.is("1200 by ROOM 99 is", 1, Due.laid("n2;l0,1,99,1;d0,1,99;d0,1,1;").count(5));
        due.is("all twelve", 12, Due.laid("n2;" + "l0,1,1,1;".repeat(12) + "d0,1,13;").count(5));
        due.is("what is LOST fills none", 0, Due.laid("n2;l0,1,1,1;d1,0,99;").count(5));
    }

    // ---- Promise 14: "COST of all."

    private static void costOfAll() {
        // A row of six LINKS of ROOM 1, all six DEMANDS over all of it: 7128 TWELFTHS by each, as much as there can be.
        String row = "n7;l0,1,1,1;l1,2,1,1;l2,3,1,1;l3,4,1,1;l4,5,1,1;l5,6,1,1;";
        due.is("the fullest net", 6 * (116 + 500 * (7128 - 12)), Due.laid(row + "d0,6,99;".repeat(6)).cost());
        due.is("the emptiest", 12, Due.laid("n2;l0,1,99,1;d0,1,1;").cost());
        LoadWeights x = new LoadWeights();
        int sum = 0;
        for (int l = 0; l < 7; l++) {
            sum += x.link(l, COST);
        }
        due.is("of all LINKS together", sum, x.cost());
    }

    // ---- Promise 15: "1 if MARK of the WEIGHTS as they are, the WEIGHT of a LINK being w (as it is, too), is TABU .. BAD."

    private static void tabuNumbers() {
        LoadWeights one = Due.laid(ONE);
        LoadWeights all = Due.laid(TWELVE);
        for (int l : new int[] {LOW, -1, 1, 12, HIGH}) {
            due.is("tabu(" + l + ", 1) of one", BAD, one.tabu(l, 1));
        }
        for (int w : new int[] {LOW, -1, 0, 21, 22, HIGH}) {
            due.is("tabu(0, " + w + ")", BAD, one.tabu(0, w));
            due.is("tabu(11, " + w + ")", BAD, all.tabu(11, w));
        }
        due.is("tabu(12, 1) of twelve", BAD, all.tabu(12, 1));
        due.is("tabu(11, 20) of twelve", 0, all.tabu(11, 20));
        due.is("tabu(11, 1) of twelve", 0, all.tabu(11, 1));
        one.step(1);
        one.move(0, 1);
        due.is("the WEIGHT as it is, too", 1, one.tabu(0, 1));
        due.is("another", 0, one.tabu(0, 2));
        due.is("20", 0, one.tabu(0, 20));
        LoadWeights most = Due.laid("n2;l0,1,1,20;d0,1,1;");
        most.step(1);
        due.is("20 is TABU", 1, most.tabu(0, 20));
        due.is("19 is not", 0, most.tabu(0, 19));
        due.is("asking changes no WEIGHT", 1, most.link(0, 3));
    }

    // ---- 'Terms': "MARK of WEIGHTS: 31 times what it was and WEIGHT, modulo 997, LINK by LINK, 0 first, from 7 on"

    private static void markAtItsModulus() {
        // 31 * (31 * 7 + 8) + 3 is 6978, and 7 times 997 is 6979.
        int[] marks = {994, 995, 996, 0, 1, 2};
        for (int i = 0; i < marks.length; i++) {
            LoadWeights x = Due.laid("n2;l0,1,1,8;l0,1,1," + (1 + i) + ";d0,1,1;");
            due.is("MARK of 8, " + (1 + i), marks[i], x.count(7));
        }
        LoadWeights x = Due.laid("n2;l0,1,1,8;l0,1,1,3;d0,1,1;");
        x.move(1, 4);
        due.is("MARK by a MOVE over the modulus", 0, x.count(7));
        x.undo();
        due.is("MARK UNDONE", 996, x.count(7));
        due.is("MARK of one LINK, as little as it can be", 218, Due.laid(ONE).count(7));
        due.is("MARK of one LINK, as much", 237, Due.laid("n2;l0,1,1,20;d0,1,1;").count(7));
        due.is("LINK 0 first: 1, 2", (31 * 218 + 2) % 997, Due.laid("n2;l0,1,1,1;l0,1,1,2;d0,1,1;").count(7));
        due.is("LINK 0 first: 2, 1", (31 * 219 + 1) % 997, Due.laid("n2;l0,1,1,2;l0,1,1,1;d0,1,1;").count(7));
    }

    /** Where no MARK is TABU, 0 is none either; and it is, as any other, once it became so. */
    private static void markZeroIsNotTabuAtFirst() {
        LoadWeights x = Due.laid("n2;l0,1,1,8;l0,1,1,4;d0,1,1;");
        due.is("MARK", 0, x.count(7));
        due.is("0 is not TABU at first", 0, x.tabu(1, 4));
        due.is("a STEP", 20, x.step(1));
        due.is("LINK 0 as 4", 4, x.link(0, 3));
        due.is("0 is TABU", 1, x.tabu(0, 8));
        x.undo();
        due.is("0 is not, UNDONE", 0, x.tabu(0, 8));
        x.step(1);
        x.lay();
        due.is("0 is not, LAID", 0, x.tabu(0, 8));
    }

    private static void markOfTwelve() {
        for (int w = 1; w <= 20; w++) {
            LoadWeights x = Due.laid("n2;" + ("l0,1,1," + w + ";").repeat(12) + "d0,1,1;");
            BigInteger mark = BigInteger.valueOf(7);
            for (int l = 0; l < 12; l++) {
                mark = mark.multiply(BigInteger.valueOf(31)).add(BigInteger.valueOf(w));
            }
            due.is("MARK of twelve times " + w, mark.mod(BigInteger.valueOf(997)).intValue(), x.count(7));
            x.turn(0, 0);
            due.is("MARK, one being DOWN", mark.mod(BigInteger.valueOf(997)).intValue(), x.count(7));
        }
    }

    // ---- Promise 19: "How many: 0 NODES .. 10 letters of THE TEXT. BAD."

    private static void countNumbers() {
        LoadWeights x = Due.laid(TWELVE);
        int[] want = {7, 12, 6, 0, 0, 0, 72, x.count(7), 0, 0, TWELVE.length()};
        for (int what = 0; what <= 10; what++) {
            due.is("count(" + what + ")", want[what], x.count(what));
        }
        for (int what : new int[] {LOW, -10, -1, 11, 12, 256, HIGH}) {
            due.is("count(" + what + ")", BAD, x.count(what));
        }
        LoadWeights least = Due.laid(ONE);
        int[] few = {2, 1, 1, 0, 0, 0, 116, 218, 0, 0, ONE.length()};
        for (int what = 0; what <= 10; what++) {
            due.is("count(" + what + ") of the least net", few[what], least.count(what));
        }
        least.turn(0, 0);
        due.is("count(3): the only one is DOWN", 1, least.count(3));
        due.is("count(4): the only one is LOST", 1, least.count(4));
    }

    // ---- 'Terms': "All that is asked is told of all as it stands then"

    /** Each question as the very first one behind a call that may have looked at other WEIGHTS or goals. */
    private static void askedAtOnce() {
        String text = "n3;l0,1,9,2;l1,2,9,2;l0,2,1,4;d0,2,1;d0,1,1;";
        List<ToIntFunction<LoadWeights>> ahead = List.of(
            x -> x.move(2, 9) + x.undo(), x -> x.turn(0, 0) + x.undo(), x -> x.step(3) + x.undo(),
            x -> x.move(1, 5) + x.even(0, 2) + x.undo() + x.undo(), x -> x.best(0), x -> x.worst(0), x -> x.rescue(0, 0),
            x -> x.rescue(1, 0), x -> x.far(1, 0), x -> x.far(0, 1), x -> x.fault(), x -> x.step(4));
        List<ToIntFunction<LoadWeights>> questions = List.of(
            x -> x.link(0, LOAD), x -> x.link(2, LOAD), x -> x.link(0, COST), x -> x.link(2, COST), x -> x.link(0, SHORT),
            x -> x.link(2, SHORT), x -> x.share(0, 0), x -> x.share(0, 2), x -> x.share(1, 0), LoadWeights::cost,
            x -> x.count(4), x -> x.count(5), x -> x.count(6), x -> x.count(7), x -> x.far(0, 2), x -> x.far(0, 1),
            x -> x.best(2), x -> x.worst(1), x -> x.tabu(0, 2), x -> x.count(3));
        // Of the first DEMAND 6 go by LINK 2 and 6 by 1; the 12 of the second by LINK 0 besides. LINK 2 as 5
        // has all go by 1: 24 + 12. Without LINK 0 one is LOST and the other goes by LINK 2: 12000 + 116.
        int[] want = {18, 6, 18, 10, 2, 1, 6, 6, 12, 34, 0, 0, 34, mark(2, 2, 4), 4, 2, 36, 12116, 0, 0};
        for (int a = 0; a < ahead.size(); a++) {
            for (int q = 0; q < want.length; q++) {
                LoadWeights x = Due.laid(text);
                ahead.get(a).applyAsInt(x);
                due.is("question " + q + " behind call " + a, want[q], questions.get(q).applyAsInt(x));
            }
        }
    }

    private static int mark(int... weights) {
        int mark = 7;
        for (int w : weights) {
            mark = (31 * mark + w) % 997;
        }
        return mark;
    }
}
