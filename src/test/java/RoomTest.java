import com.sun.management.ThreadMXBean;
import java.lang.management.ManagementFactory;

/** All that an object needs is made with it: its calls make nothing more. */
public final class RoomTest {
    private static final ThreadMXBean THREADS = (ThreadMXBean) ManagementFactory.getThreadMXBean();

    public static void main(String[] args) {
        calls(new TestBench(8, 3));
        long before = made();
        TestBench x = new TestBench(8, 3);
        long behind = made();
        Check.due("an object takes at most 100,000 bytes", 1, behind - before <= 100_000 ? 1 : 0);
        before = made();
        calls(x);
        behind = made();
        Check.due("calls make at most 1,000 bytes", 1, behind - before <= 1_000 ? 1 : 0);
        Check.finish("RoomTest");
    }

    private static long made() {
        return THREADS.getThreadAllocatedBytes(Thread.currentThread().getId());
    }

    private static void calls(TestBench x) {
        for (int s = 0; s < 8; s++) {
            x.edge(s, 0, (s + 1) % 8, s == 7 ? 1 : 0);
        }
        x.seal();
        for (int round = 0; round < 30; round++) {
            x.suite(round % 2, 0);
            x.run();
            x.same();
            x.apart(round % 8, 0);
            x.test(round, 2, true);
            x.begin(0);
            x.give(0);
            x.covered();
            x.look(6);
            x.resize(1 + round % 10);
            x.change(0, 0, 0, round % 4);
        }
    }
}
