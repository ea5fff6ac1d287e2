import java.util.function.Supplier;
import java.util.function.ToIntFunction;

/**
 * "Of several the first in this order; nothing changes then": each call that is refused, and each that only asks,
 * leaves all as it is. Compared with an object to which the call never came: at once, behind each number of
 * undoings, and behind the STEPS that come later.
 */
public final class RefusedTest {
    private static final int BAD = -1, NO = -2, FULL = -3, NONE = -4;
    private static final int LOW = Integer.MIN_VALUE, HIGH = Integer.MAX_VALUE;
    private static final int MOST_UNDONE = 7;

    private static final Due due = new Due();

    public static void main(String[] args) {
        Supplier<LoadWeights> first = LoadWeights::new;
        Supplier<LoadWeights> searched = RefusedTest::searched;
        Supplier<LoadWeights> down = RefusedTest::allDown;
        Supplier<LoadWeights> full = RefusedTest::fullText;
        due.is("a net searched: six changes", 6, searched().count(9));
        due.is("a net searched: six MARKS", 6, searched().count(8));
        due.is("a net DOWN", 2, allDown().count(3));
        due.is("THE TEXT full", 200, fullText().count(10));
        badNumbers("the first net", first);
        badNumbers("a net searched", searched);
        badNumbers("a net DOWN", down);
        badNumbers("THE TEXT full", full);
        refusedAtFirst(first);
        refusedWhenSearched(searched);
        refusedWhenDown(down);
        refusedWhenFull(full);
        asking("the first net", first);
        asking("a net searched", searched);
        asking("a net DOWN", down);
        asking("THE TEXT full", full);
        due.end("RefusedTest");
    }

    /** More changes and MARKS than are kept, THE TEXT with a FAULT. */
    private static LoadWeights searched() {
        LoadWeights x = Due.laid("n3;l0,1,9,2;l1,2,9,2;l0,2,1,1;d0,2,1;d1,2,1;");
        Due.write(x, "l0,0,1,1;");
        x.step(3);
        x.move(2, 1);
        x.step(3);
        x.turn(1, 0);
        x.step(2);
        x.turn(1, 1);
        x.even(0, 2);
        x.move(0, 20);
        return x;
    }

    private static LoadWeights allDown() {
        LoadWeights x = Due.laid("n2;l0,1,1,1;l0,1,1,3;d0,1,1;");
        x.step(1);
        x.turn(0, 0);
        x.turn(1, 0);
        return x;
    }

    private static LoadWeights fullText() {
        LoadWeights x = new LoadWeights();
        Due.write(x, "n2;".repeat(66) + "n2");
        x.step(1);
        return x;
    }

    private static void refused(String call, int want, Supplier<LoadWeights> made, ToIntFunction<LoadWeights> asked) {
        for (int undone = 0; undone <= MOST_UNDONE; undone++) {
            LoadWeights without = made.get();
            LoadWeights with = made.get();
            due.is(call, want, asked.applyAsInt(with));
            for (int i = 0; i < undone; i++) {
                due.is(call + ": undo()", without.undo(), with.undo());
            }
            Asked.same(due, call + ", " + undone + " undone", without, with);
            due.is(call + ": step(2)", without.step(2), with.step(2));
            due.is(call + ": MARK then", without.count(7), with.count(7));
            due.is(call + ": MARKS then", without.count(8), with.count(8));
        }
    }

    private static void badNumbers(String state, Supplier<LoadWeights> made) {
        LoadWeights net = made.get();
        int nodes = net.count(0);
        int links = net.count(1);
        int demands = net.count(2);
        refused(state + ": write(31)", BAD, made, x -> x.write(31));
        refused(state + ": write(127)", BAD, made, x -> x.write(127));
        for (int l : new int[] {LOW, -1, links, HIGH}) {
            refused(state + ": move(" + l + ", 5)", BAD, made, x -> x.move(l, 5));
            refused(state + ": turn(" + l + ", 0)", BAD, made, x -> x.turn(l, 0));
            refused(state + ": turn(" + l + ", 1)", BAD, made, x -> x.turn(l, 1));
            refused(state + ": link(" + l + ", 0)", BAD, made, x -> x.link(l, 0));
            refused(state + ": share(0, " + l + ")", BAD, made, x -> x.share(0, l));
            refused(state + ": tabu(" + l + ", 1)", BAD, made, x -> x.tabu(l, 1));
            refused(state + ": rescue(" + l + ", 0)", BAD, made, x -> x.rescue(l, 0));
        }
        for (int w : new int[] {LOW, 0, 21, HIGH}) {
            refused(state + ": move(0, " + w + ")", BAD, made, x -> x.move(0, w));
            refused(state + ": tabu(0, " + w + ")", BAD, made, x -> x.tabu(0, w));
        }
        for (int node : new int[] {LOW, -1, nodes, HIGH}) {
            refused(state + ": even(" + node + ", 1)", BAD, made, x -> x.even(node, 1));
            refused(state + ": even(0, " + node + ")", BAD, made, x -> x.even(0, node));
            refused(state + ": even of the same", BAD, made, x -> x.even(node, node));
            refused(state + ": far(" + node + ", 1)", BAD, made, x -> x.far(node, 1));
            refused(state + ": far(0, " + node + ")", BAD, made, x -> x.far(0, node));
        }
        for (int d : new int[] {LOW, -1, demands, HIGH}) {
            refused(state + ": share(" + d + ", 0)", BAD, made, x -> x.share(d, 0));
        }
        refused(state + ": step(0)", BAD, made, x -> x.step(0));
        refused(state + ": step(4)", BAD, made, x -> x.step(4));
        refused(state + ": turn(0, 2)", BAD, made, x -> x.turn(0, 2));
        refused(state + ": turn(0, -1)", BAD, made, x -> x.turn(0, -1));
        refused(state + ": link(0, 8)", BAD, made, x -> x.link(0, 8));
        refused(state + ": best(3)", BAD, made, x -> x.best(3));
        refused(state + ": worst(2)", BAD, made, x -> x.worst(2));
        refused(state + ": rescue(0, 3)", BAD, made, x -> x.rescue(0, 3));
        refused(state + ": count(11)", BAD, made, x -> x.count(11));
        refused(state + ": count(-1)", BAD, made, x -> x.count(-1));
    }

    private static void refusedAtFirst(Supplier<LoadWeights> first) {
        refused("lay() of no TEXT", NO, first, LoadWeights::lay);
        refused("fault() of no TEXT", NONE, first, LoadWeights::fault);
        refused("undo() of nothing", NO, first, LoadWeights::undo);
        refused("move to what it is", NO, first, x -> x.move(6, 1));
        refused("turn to what it is", NO, first, x -> x.turn(6, 1));
        refused("even: x is t", NO, first, x -> x.even(4, 4));
        refused("even: no LINK", NO, first, x -> x.even(4, 0));
        refused("even: one LINK", NO, first, x -> x.even(1, 4));
        refused("far: no way", NONE, first, x -> x.far(4, 0));
        refused("rescue: none", NONE, first, x -> x.rescue(6, 0));
    }

    private static void refusedWhenSearched(Supplier<LoadWeights> searched) {
        refused("lay() of a FAULT", NO, searched, LoadWeights::lay);
        refused("move to 20 as it is", NO, searched, x -> x.move(0, 20));
        refused("turn UP as it is", NO, searched, x -> x.turn(0, 1));
        refused("even: one LINK", NO, searched, x -> x.even(1, 2));
        refused("far: no way", NONE, searched, x -> x.far(2, 0));
        Supplier<LoadWeights> evened = () -> {
            LoadWeights x = searched.get();
            x.even(0, 2);
            return x;
        };
        refused("even: none would have another", NO, evened, x -> x.even(0, 2));
        Supplier<LoadWeights> above = () -> {
            LoadWeights x = searched.get();
            x.move(1, 20);
            return x;
        };
        refused("even: one would be above 20", NO, above, x -> x.even(0, 2));
    }

    private static void refusedWhenDown(Supplier<LoadWeights> down) {
        refused("turn DOWN as it is", NO, down, x -> x.turn(1, 0));
        refused("even: both are DOWN", NO, down, x -> x.even(0, 1));
        refused("worst: none is UP", NONE, down, x -> x.worst(0));
        refused("worst: none is UP", NONE, down, x -> x.worst(1));
        refused("rescue: it is DOWN", NO, down, x -> x.rescue(0, 0));
        refused("far: all DOWN", NONE, down, x -> x.far(0, 1));
    }

    private static void refusedWhenFull(Supplier<LoadWeights> full) {
        refused("letter 201", FULL, full, x -> x.write(';'));
        refused("letter 201", FULL, full, x -> x.write(32));
        refused("letter 201", FULL, full, x -> x.write(126));
        refused("letter 201: BAD ahead of FULL", BAD, full, x -> x.write(LOW));
        refused("the last ITEM has no end", NO, full, LoadWeights::lay);
        refused("fault()", 198, full, LoadWeights::fault);
    }

    /** Asked twice, each answer is the same, and all is as if it had not been asked. */
    private static void asking(String state, Supplier<LoadWeights> made) {
        LoadWeights asked = made.get();
        Asked.same(due, state + ": asked again", made.get(), asked);
        refused(state + ": best", made.get().best(0), made, x -> x.best(0));
        refused(state + ": worst", made.get().worst(1), made, x -> x.worst(1));
        refused(state + ": rescue", made.get().rescue(0, 2), made, x -> x.rescue(0, 2));
        refused(state + ": tabu", made.get().tabu(0, 7), made, x -> x.tabu(0, 7));
        refused(state + ": far", made.get().far(0, 1), made, x -> x.far(0, 1));
        refused(state + ": far to another", made.get().far(1, 0), made, x -> x.far(1, 0));
        refused(state + ": link", made.get().link(0, 7), made, x -> x.link(0, 7));
        refused(state + ": share", made.get().share(0, 1), made, x -> x.share(0, 1));
        refused(state + ": cost", made.get().cost(), made, LoadWeights::cost);
        refused(state + ": count", made.get().count(6), made, x -> x.count(6));
        refused(state + ": fault", made.get().fault(), made, LoadWeights::fault);
    }
}
