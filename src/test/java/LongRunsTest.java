import java.util.Random;

/**
 * "An object is used for at most 512 calls after it has been made": runs of just so many calls, each answer compared
 * with the Oracle's. Most are of one kind, so that what is kept (letters, MARKS, changes) runs over again and again.
 */
public final class LongRunsTest {
    private static final int CALLS = 512;
    private static final String SMALL = "n3;l0,1,9,2;l1,2,9,2;l0,2,1,1;l2,0,3,1;d0,2,1;d1,0,7;";
    /** Twelve LINKS, six DEMANDS, seven NODES. */
    private static final String GREAT = "n7;l0,1,9,1;l1,2,9,1;l2,3,9,1;l3,4,9,1;l4,5,9,1;l5,6,9,1;l0,2,9,2;l2,4,9,2;"
        + "l4,6,9,2;l0,6,9,9;l1,3,9,2;l6,0,9,1;d0,6,9;d1,6,8;d2,6,7;d3,6,6;d6,1,5;d0,4,9;";

    private static final Due due = new Due();

    private final String name;
    private final LoadWeights x = new LoadWeights();
    private final Oracle o = new Oracle();
    private final Random random = new Random(512);
    private int calls = 0;

    private LongRunsTest(String name) {
        this.name = name;
    }

    public static void main(String[] args) {
        new LongRunsTest("letters").letters();
        new LongRunsTest("letters and wiped").lettersAndWiped();
        new LongRunsTest("laid").laid();
        new LongRunsTest("moves").moves();
        new LongRunsTest("turns").turns();
        new LongRunsTest("evened").evened();
        new LongRunsTest("steps").steps();
        new LongRunsTest("steps of a small net").stepsOfSmallNet();
        new LongRunsTest("to and fro").toAndFro();
        new LongRunsTest("undone seven times").undoneSevenTimes();
        new LongRunsTest("asked").asked();
        due.end("LongRunsTest");
    }

    private boolean more() {
        return calls < CALLS;
    }

    private void both(String call, int got, int want) {
        calls++;
        if (calls <= CALLS) {
            due.is(name + ", call " + calls + ": " + call, want, got);
        }
    }

    private void lay(String text) {
        for (char c : text.toCharArray()) {
            both("write(" + (int) c + ")", x.write(c), o.write(c));
        }
        both("lay()", x.lay(), o.lay());
    }

    private void move() {
        int l = random.nextInt(o.count(1));
        int w = 1 + random.nextInt(20);
        both("move(" + l + ", " + w + ")", x.move(l, w), o.move(l, w));
    }

    private void turn() {
        int l = random.nextInt(o.count(1));
        int is = random.nextInt(2);
        both("turn(" + l + ", " + is + ")", x.turn(l, is), o.turn(l, is));
    }

    private void even() {
        int a = random.nextInt(o.count(0));
        int t = random.nextInt(o.count(0));
        both("even(" + a + ", " + t + ")", x.even(a, t), o.even(a, t));
    }

    private void step(int n) {
        both("step(" + n + ")", x.step(n), o.step(n));
    }

    private void undo() {
        both("undo()", x.undo(), o.undo());
    }

    private void count(int what) {
        both("count(" + what + ")", x.count(what), o.count(what));
    }

    private void letters() {
        while (more()) {
            both("write(59)", x.write(';'), o.write(';'));
        }
    }

    private void lettersAndWiped() {
        while (more()) {
            for (int i = 0; i < 202; i++) {
                both("write(110)", x.write('n'), o.write('n'));
            }
            both("wipe()", x.wipe(), o.wipe());
        }
    }

    private void laid() {
        lay(SMALL);
        while (more()) {
            move();
            step(1);
            both("lay()", x.lay(), o.lay());
            count(random.nextInt(11));
        }
    }

    private void moves() {
        lay(SMALL);
        while (more()) {
            move();
            count(6);
            count(9);
        }
    }

    private void turns() {
        lay(GREAT);
        while (more()) {
            turn();
        }
    }

    private void evened() {
        lay(GREAT);
        while (more()) {
            even();
            move();
            count(6);
        }
    }

    private void steps() {
        lay(GREAT);
        for (int i = 0; i < 40; i++) {
            step(3);
            count(7);
        }
        while (more()) {
            count(random.nextInt(11));
        }
    }

    private void stepsOfSmallNet() {
        lay(SMALL);
        while (more()) {
            step(1 + random.nextInt(3));
            count(7);
            count(8);
        }
    }

    private void toAndFro() {
        lay(SMALL);
        while (more()) {
            switch (random.nextInt(5)) {
                case 0 -> step(1);
                case 1 -> turn();
                case 2 -> even();
                case 3 -> move();
                default -> undo();
            }
            count(6 + random.nextInt(4));
        }
    }

    private void undoneSevenTimes() {
        lay(SMALL);
        while (more()) {
            for (int i = 0; i < 9; i++) {
                step(1);
            }
            for (int i = 0; i < 7; i++) {
                undo();
                count(7);
            }
        }
    }

    private void asked() {
        lay(GREAT);
        step(1);
        while (more()) {
            int l = random.nextInt(12);
            int d = random.nextInt(6);
            int a = random.nextInt(7);
            both("link(" + l + ", " + (d + 2) + ")", x.link(l, d + 2), o.link(l, d + 2));
            both("far(" + a + ", " + d + ")", x.far(a, d), o.far(a, d));
            both("share(" + d + ", " + l + ")", x.share(d, l), o.share(d, l));
            both("tabu(" + l + ", " + (d + 1) + ")", x.tabu(l, d + 1), o.tabu(l, d + 1));
            both("cost()", x.cost(), o.cost());
            both("worst(" + a % 2 + ")", x.worst(a % 2), o.worst(a % 2));
        }
    }
}
