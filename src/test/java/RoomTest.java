import com.sun.management.ThreadMXBean;
import java.lang.management.ManagementFactory;

/** What calls make: nothing, as everything is made by the constructor; and that a dear run ends soon enough. */
public final class RoomTest {
    private static final Checks checks = new Checks();

    public static void main(String[] args) {
        checks.about("room");
        dearCalls(fullOfMessages());
        ThreadMXBean threads = (ThreadMXBean) ManagementFactory.getThreadMXBean();
        long empty = threads.getCurrentThreadAllocatedBytes();
        empty = threads.getCurrentThreadAllocatedBytes() - empty;
        long before = threads.getCurrentThreadAllocatedBytes();
        ClerkVotes x = fullOfMessages();
        long made = threads.getCurrentThreadAllocatedBytes() - before - empty;
        checks.holds("a new object takes less than 50,000 bytes, but it takes " + made, made < 50_000);
        before = threads.getCurrentThreadAllocatedBytes();
        dearCalls(x);
        made = threads.getCurrentThreadAllocatedBytes() - before - empty;
        checks.holds("calls make nothing, but they make " + made + " bytes", made < 2_000);
        checks.end();
    }

    private static ClerkVotes fullOfMessages() {
        ClerkVotes x = new ClerkVotes();
        for (int deal = 0; deal < 8; deal++) {
            x.open(15);
        }
        while (x.count(2) < 60) {
            x.twice(0);
        }
        x.set(0, 50);
        x.set(1, 1);
        x.set(2, 1);
        x.set(3, 1);
        return x;
    }

    private static void dearCalls(ClerkVotes x) {
        for (int i = 0; i < 60; i++) {
            x.worstLoss(i % 8, 1);
            x.settledIn(i % 8);
            x.underwayIn(50);
            x.ticks(100);
            x.save(i % 2);
            x.restore(i % 2);
            x.put(0x6F33L);
            x.fault();
            x.carryOut();
            x.put(0x74393931L);
            x.carryOut();
            x.undo();
            x.deliver(i);
            x.count(i % 14);
        }
    }
}
