import java.util.Random;

/** Random runs of calls, each answer compared with the Oracle's. The seeds are fixed. */
public final class RandomRunsTest {
    private static final int RUNS = 600;
    private static final int LEAST_CALLS = 30, MOST_CALLS = 130;
    /** What an object answers behind its 512th call is free. */
    private static final int LAST_CALL = 512;

    private final Due due = new Due();
    private final Random random;
    private final int run;
    private int calls = 0;
    private final LoadWeights x = new LoadWeights();
    private final Oracle o = new Oracle();

    private RandomRunsTest(int run) {
        this.run = run;
        this.random = new Random(7919L * run + 1);
    }

    public static void main(String[] args) {
        Due all = new Due();
        for (int run = 0; run < RUNS; run++) {
            RandomRunsTest one = new RandomRunsTest(run);
            one.go();
            all.is("wrong answers of random run " + run, 0, one.due.wrong());
        }
        all.end("RandomRunsTest");
    }

    private void go() {
        if (run % 8 != 0) {
            tell(randomText());
            both("lay()", x.lay(), o.lay());
        }
        int turns = LEAST_CALLS + upTo(MOST_CALLS - LEAST_CALLS);
        for (int i = 0; i < turns && due.wrong() == 0; i++) {
            oneCall();
        }
        lookAtAll();
    }

    /** Both have been called by now, once each. */
    private void both(String call, int got, int want) {
        calls++;
        if (calls <= LAST_CALL) {
            due.is("run " + run + ", call " + calls + ": " + call, want, got);
        }
    }

    private int upTo(int n) {
        return random.nextInt(n + 1);
    }

    private int linkNumber() {
        int links = o.count(1);
        return random.nextInt(20) == 0 ? links * upTo(1) - 1 + upTo(1) : random.nextInt(links);
    }

    private int nodeNumber() {
        int nodes = o.count(0);
        return random.nextInt(20) == 0 ? (nodes + 1) * upTo(1) - 1 : random.nextInt(nodes);
    }

    private int weightNumber() {
        return random.nextInt(3) == 0 ? upTo(21) : 1 + random.nextInt(4);
    }

    private void tell(String text) {
        both("wipe()", x.wipe(), o.wipe());
        for (char c : text.toCharArray()) {
            both("write(" + (int) c + ")", x.write(c), o.write(c));
        }
        both("fault()", x.fault(), o.fault());
    }

    /** Mostly good nets; small ones and low WEIGHTS, so that many ways are as short. */
    private String randomText() {
        int nodes = 2 + random.nextInt(isSearch() ? 2 : 6);
        StringBuilder text = new StringBuilder();
        if (nodes != 4 || random.nextBoolean()) {
            text.append('n').append(nodes).append(';');
        }
        int links = 1 + random.nextInt(isSearch() ? 4 : 12);
        int most = random.nextInt(4) == 0 ? 20 : 3;
        int room = random.nextBoolean() ? 9 : 30;
        for (int l = 0; l < links; l++) {
            int a = random.nextInt(nodes);
            text.append('l').append(a).append(',').append((a + 1 + random.nextInt(nodes - 1)) % nodes)
                .append(',').append(1 + random.nextInt(room)).append(',').append(1 + random.nextInt(most)).append(';');
        }
        int demands = 1 + random.nextInt(6);
        for (int d = 0; d < demands; d++) {
            int a = random.nextInt(nodes);
            text.append('d').append(a).append(',').append((a + 1 + random.nextInt(nodes - 1)) % nodes)
                .append(',').append(1 + random.nextInt(random.nextInt(5) == 0 ? 99 : 12)).append(';');
        }
        if (random.nextInt(6) == 0) {
            Spoil.one(text, random);
        }
        return text.toString();
    }

    /** Every third run searches small nets, whose LINKS come and go between STEPS. */
    private boolean isSearch() {
        return run % 3 == 1;
    }

    private void oneCall() {
        int l = linkNumber();
        int w = weightNumber();
        int a = nodeNumber();
        int b = nodeNumber();
        int n = random.nextInt(4);
        int is = random.nextInt(30) == 0 ? 2 : upTo(1);
        int kind = random.nextInt(16);
        switch (isSearch() && kind > 9 ? 4 + kind % 2 : kind) {
            case 0, 1 -> both("move(" + l + ", " + w + ")", x.move(l, w), o.move(l, w));
            case 2, 3 -> both("even(" + a + ", " + b + ")", x.even(a, b), o.even(a, b));
            case 4 -> both("step(" + n + ")", x.step(n), o.step(n));
            case 5 -> both("turn(" + l + ", " + is + ")", x.turn(l, is), o.turn(l, is));
            case 6 -> both("undo()", x.undo(), o.undo());
            case 7 -> lookAtLink(l);
            case 8 -> both("far(" + a + ", " + b + ")", x.far(a, b), o.far(a, b));
            case 9 -> {
                int d = random.nextInt(o.count(2) + 2) - 1;
                both("share(" + d + ", " + l + ")", x.share(d, l), o.share(d, l));
            }
            case 10 -> both("tabu(" + l + ", " + w + ")", x.tabu(l, w), o.tabu(l, w));
            case 11 -> both("best(" + n + ")", x.best(n), o.best(n));
            case 12 -> both("worst(" + n + ")", x.worst(n), o.worst(n));
            case 13 -> both("rescue(" + l + ", " + n + ")", x.rescue(l, n), o.rescue(l, n));
            case 14 -> lookAtCounts();
            default -> tellMore();
        }
    }

    private void tellMore() {
        if (random.nextInt(6) == 0) {
            tell(randomText());
            both("lay()", x.lay(), o.lay());
        } else {
            int letter = 20 + random.nextInt(120);
            both("write(" + letter + ")", x.write(letter), o.write(letter));
        }
    }

    private void lookAtLink(int l) {
        for (int what = -1; what <= 8; what++) {
            both("link(" + l + ", " + what + ")", x.link(l, what), o.link(l, what));
        }
    }

    private void lookAtCounts() {
        both("cost()", x.cost(), o.cost());
        for (int what = -1; what <= 11; what++) {
            both("count(" + what + ")", x.count(what), o.count(what));
        }
    }

    private void lookAtAll() {
        lookAtCounts();
        for (int l = -1; l <= o.count(1); l++) {
            lookAtLink(l);
            for (int d = -1; d <= o.count(2); d++) {
                both("share(" + d + ", " + l + ")", x.share(d, l), o.share(d, l));
            }
            for (int i = 0; i < 4; i++) {
                int w = upTo(21);
                both("tabu(" + l + ", " + w + ")", x.tabu(l, w), o.tabu(l, w));
            }
        }
        for (int a = -1; a <= o.count(0); a++) {
            for (int b = -1; b <= o.count(0); b++) {
                both("far(" + a + ", " + b + ")", x.far(a, b), o.far(a, b));
            }
        }
    }
}
