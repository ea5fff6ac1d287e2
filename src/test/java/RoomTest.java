import com.sun.management.ThreadMXBean;
import java.lang.management.ManagementFactory;

/** Calls make no objects: all rows are made with the object, and those are few. */
public final class RoomTest {
    /** What looking itself may make. */
    private static final long SLACK = 4096;

    public static void main(String[] args) {
        Due due = new Due();
        ThreadMXBean threads = (ThreadMXBean) ManagementFactory.getThreadMXBean();
        String text = "n7;" + "l0,1,9,1;l1,2,9,1;l2,3,9,1;l3,4,9,1;l4,5,9,1;l5,6,9,1;l0,2,9,2;l2,4,9,2;l4,6,9,2;l0,6,9,9;"
            + "l1,3,9,2;l6,0,9,1;" + "d0,6,9;d1,6,8;d2,6,7;d3,6,6;d6,1,5;d0,4,9;";
        LoadWeights warm = new LoadWeights();
        Due.write(warm, text);
        calls(warm);
        long ahead = threads.getCurrentThreadAllocatedBytes();
        LoadWeights x = new LoadWeights();
        long made = threads.getCurrentThreadAllocatedBytes();
        Due.write(x, text);
        calls(x);
        long behind = threads.getCurrentThreadAllocatedBytes();
        due.is("an object is small: bytes above 16384", 0, Math.max(0, made - ahead - 16384));
        due.is("calls make nothing: bytes above the slack", 0, Math.max(0, behind - made - SLACK));
        due.end("RoomTest");
    }

    private static void calls(LoadWeights x) {
        x.lay();
        x.fault();
        for (int i = 0; i < 15; i++) {
            x.step(3);
            x.move(i % 12, 1 + i % 20);
            x.even(i % 7, 6);
            x.turn(i % 12, i / 12);
            x.undo();
            x.link(i % 12, 7);
            x.far(i % 7, 6);
            x.share(i % 6, i % 12);
            x.cost();
            x.tabu(i % 12, 3);
            x.best(2);
            x.worst(1);
            x.rescue(i % 12, 2);
            x.count(i % 11);
        }
        x.wipe();
    }
}
