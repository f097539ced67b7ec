/** Promises 2 (type) and 3 (clear); what type() refuses is tested in CallEdgesTest. */
public final class TextTest {
    public static void main(String[] args) {
        Check check = new Check();
        typing(check);
        clearing(check);
        check.end();
    }

    private static void typing(Check check) {
        TimedThreads x = new TimedThreads(1);
        check.due("type halt", x.type(Check.packed("halt"), 4), 4);
        check.due("type ;", x.type(';', 1), 5);
        check.due("bytes above n are not looked at", x.type(0xff00ff0000000000L | Check.packed("word "), 5), 10);
        check.due("type 8", x.type(Check.packed("11;word7"), 8), 18);
        check.due("assemble", x.assemble(0, 0), 3);
        check.due("the lowest byte is first", x.peek(0, 0), 115);
        check.due("word 11", x.peek(0, 1), 11);
        check.due("word7", x.peek(0, 2), 7);
    }

    private static void clearing(Check check) {
        TimedThreads x = new TimedThreads(1);
        check.due("clear of none", x.clear(), 0);
        Check.type(x, "oops");
        check.refused("assemble", IllegalArgumentException.class, () -> x.assemble(0, 0));
        check.due("clear", x.clear(), 4);
        check.due("clear again", x.clear(), 0);
        check.due("the fault stays", x.fault(0), 1);
        check.due("an empty text", x.assemble(0, 0), 0);
        check.due("has no fault", x.fault(0), 0);
    }
}
