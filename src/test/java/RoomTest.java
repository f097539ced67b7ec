import java.lang.management.ManagementFactory;

/** A whole run of calls makes next to nothing beside the object itself. */
public final class RoomTest {
    private static final com.sun.management.ThreadMXBean BEAN =
        (com.sun.management.ThreadMXBean) ManagementFactory.getThreadMXBean();

    public static void main(String[] args) {
        Check check = new Check();
        long id = Thread.currentThread().getId();
        // Once ahead, so that loading classes is not counted.
        dearRun(new TimedThreads(1));
        long before = BEAN.getThreadAllocatedBytes(id);
        TimedThreads x = new TimedThreads(1);
        long made = BEAN.getThreadAllocatedBytes(id);
        dearRun(x);
        long after = BEAN.getThreadAllocatedBytes(id);
        check.due("an object is small: " + (made - before), made - before < 40_000, true);
        check.due("its calls make little: " + (after - made), after - made < 10_000, true);
        check.end();
    }

    private static void dearRun(TimedThreads x) {
        for (int k = 0; k < 8; k++) {
            x.type(Check.packed("word 11;"), 8);
        }
        x.type(Check.packed("a:;"), 3);
        for (int k = 0; k < 4; k++) {
            x.poke(k, 127, 0xe05ff06f);
            x.start(k, 508);
        }
        for (int k = 0; k < 120; k++) {
            x.assemble(k & 3, k);
            x.run(2000);
            x.trace(k & 3, k & 15, 1);
            x.state(k & 3, k & 7);
        }
    }
}
