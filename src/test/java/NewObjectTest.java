/** Promise 1: a new object (its wheel is tested in CallEdgesTest). */
public final class NewObjectTest {
    public static void main(String[] args) {
        Check check = new Check();
        allIsZero(check, new TimedThreads(3));
        for (int thread = 0; thread < 4; thread++) {
            threadIsZero(check, new TimedThreads(3), thread);
        }
        objectsAreApart(check);
        check.end();
    }

    private static void allIsZero(Check check, TimedThreads x) {
        check.due("now()", x.now(), 0);
        check.due("fault(0)", x.fault(0), 0);
        check.due("fault(1)", x.fault(1), 0);
        for (int word = 0; word < 64; word++) {
            check.due("shared", x.shared(word), 0);
        }
        check.due("no thread runs", x.run(40), 0);
        check.due("clear()", x.clear(), 0);
    }

    private static void threadIsZero(Check check, TimedThreads x, int thread) {
        for (int word = 0; word < 128; word++) {
            check.due("peek", x.peek(thread, word), 0);
        }
        for (int k = 0; k < 16; k++) {
            check.due("register", x.register(thread, k), 0);
            check.due("trace", x.trace(thread, k, 0), -1);
        }
        for (int what = 0; what < 8; what++) {
            check.due("state", x.state(thread, what), 0);
        }
    }

    private static void objectsAreApart(Check check) {
        TimedThreads x = new TimedThreads(1);
        TimedThreads y = new TimedThreads(1);
        x.poke(0, 0, 7);
        Check.type(x, "halt");
        x.run(5);
        check.due("peek of another", y.peek(0, 0), 0);
        check.due("clear of another", y.clear(), 0);
        check.due("now of another", y.now(), 0);
    }
}
