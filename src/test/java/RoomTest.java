import com.sun.management.ThreadMXBean;
import java.lang.management.ManagementFactory;

/** All calls of a run live in one room: after its constructor an object must make nothing more. */
public final class RoomTest {
    private static final String TEXT = "branches 4;van 2 0 1 2;van 3 2 3;" + "book 0;".repeat(20) + "ask 0 7 3;ask 1 8 1;";
    private static final long BYTES_OF_A_NEW_OBJECT = 32000;

    public static void main(String[] args) {
        Due.promise(0, "what a run makes");
        ThreadMXBean threads = (ThreadMXBean) ManagementFactory.getThreadMXBean();
        BranchCourier x = new BranchCourier();
        long news = 0;
        long calls = 0;
        // The first rounds load the classes; only the last one counts.
        for (int round = 0; round < 3; round++) {
            long start = threads.getCurrentThreadAllocatedBytes();
            x = new BranchCourier();
            long made = threads.getCurrentThreadAllocatedBytes();
            news = made - start;
            Due.load(x, TEXT);
            Due.feed(x, "many not (book = 1 and queue > 0 or home = 2)");
            made = threads.getCurrentThreadAllocatedBytes();
            everyCall(x);
            calls = threads.getCurrentThreadAllocatedBytes() - made;
        }
        Due.check("new BranchCourier()", news <= BYTES_OF_A_NEW_OBJECT, "takes " + news + " bytes");
        Due.check("all calls", calls <= 1000, "take " + calls + " bytes");
        Due.end();
    }

    private static void everyCall(BranchCourier x) {
        x.query(45);
        for (int i = 0; i < 8; i++) {
            x.ask(2 + i, 1, i % 4);
            x.run(5);
            x.take(i, 1);
            x.recall(i);
            x.close(i % 4);
            x.giveBack(i, 1);
            x.saveSnapshot();
            x.open(i % 4);
            x.lose(i % 2);
            x.find(i, 2);
            x.setHold(4);
            x.cancel(2 + i, 1);
            x.undo();
            x.arrivesIn(i);
            x.heldIn(i, 99);
            x.bookIn(i, 8, 200);
            x.format(i);
            x.hub();
            x.stranded();
            x.mostWanted();
            x.fullest();
            x.meetIn(0, 1);
            x.restoreSnapshot();
        }
        x.feed(0, 0, 0, 0, 0);
        x.load(20);
    }
}
