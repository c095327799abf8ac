import com.sun.management.ThreadMXBean;
import java.lang.management.ManagementFactory;

/** All calls of a run share one room: only the constructor may make objects and rows. */
public final class RoomTest {
    private static final long MOST_BYTES_OF_AN_OBJECT = 60_000;
    private static final long MOST_BYTES_OF_ALL_CALLS = 4_000;

    public static void main(String[] args) {
        Check check = new Check("RoomTest");
        ThreadMXBean bean = (ThreadMXBean) ManagementFactory.getThreadMXBean();
        callAll(new CountedTerms());
        bean.getCurrentThreadAllocatedBytes();
        long start = bean.getCurrentThreadAllocatedBytes();
        CountedTerms x = new CountedTerms();
        long made = bean.getCurrentThreadAllocatedBytes();
        callAll(x);
        long called = bean.getCurrentThreadAllocatedBytes();
        check.due("little room for an object", made - start <= MOST_BYTES_OF_AN_OBJECT ? 1 : made - start, 1);
        check.due("no room for calls", called - made <= MOST_BYTES_OF_ALL_CALLS ? 1 : called - made, 1);
        check.finish();
    }

    private static void putAndRead(CountedTerms x) {
        // "@L@00L@@000": a term that grows until it is stuck.
        x.put(0x404C4030304C4040L);
        x.put(0x303030L);
        x.read(0);
    }

    private static void callAll(CountedTerms x) {
        for (int i = 0; i < 20; i++) {
            putAndRead(x);
            x.copy(0, 1);
            x.bind(0, 0, 2);
            x.apply(1, 2, 3);
            x.step(0, i % 3);
            x.run(1, i % 3, 200);
            x.of(1, i % 11);
            x.part(1, i, i % 5);
            x.named(1, i);
            x.same(0, 1);
            x.count(i % 4);
            x.ends(0, 0, 200);
            x.agree(0, 200);
            x.most(0, 1, 200);
            x.alike(0, 3, 200);
            x.put('L');
            x.fault();
            x.wipe();
            x.save(i % 2);
            x.restore(i % 2);
            x.undo();
        }
    }
}
