/** Promises 2 (type) and 3 (clear). */
public final class TextTest {
    public static void main(String[] args) {
        Check check = new Check();
        typing(check);
        wrongTyping(check);
        fullText(check);
        clearing(check);
        check.end();
    }

    private static void typing(Check check) {
        TimedThreads x = new TimedThreads(1);
        check.due("type halt", x.type(Check.packed("halt"), 4), 4);
        check.due("type ;", x.type(';', 1), 5);
        check.due("bytes above n are not looked at", x.type(0xff00ff0000000000L | Check.packed("word "), 5), 10);
        check.due("type 8", x.type(Check.packed("11;word7"), 8), 18);
        check.due("assemble", x.assemble(0, 0), 3);
        check.due("the lowest byte is first", x.peek(0, 0), 115);
        check.due("word 11", x.peek(0, 1), 11);
        check.due("word7", x.peek(0, 2), 7);
    }

    private static void wrongTyping(Check check) {
        TimedThreads x = new TimedThreads(1);
        x.type('a', 1);
        int[] sizes = {0, -1, 9, Integer.MIN_VALUE, Integer.MAX_VALUE};
        for (int n : sizes) {
            check.refused("type n " + n, IllegalArgumentException.class, () -> x.type(Check.packed("aaaaaaaa"), n));
        }
        int length = 1;
        for (int c = 0; c < 256; c++) {
            long number = c << 8 | 'a';
            if (c == 10 || c >= 32 && c <= 126) {
                length += 2;
                check.due("type " + c, x.type(number, 2), length);
            } else {
                check.refused("type " + c, IllegalArgumentException.class, () -> x.type(number, 2));
            }
        }
        check.refused("a wrong one in the eighth byte", IllegalArgumentException.class,
            () -> x.type(0xe1616161_61616161L, 8));
        check.due("nothing of a refused call is typed", x.clear(), length);
    }

    private static void fullText(Check check) {
        TimedThreads x = new TimedThreads(1);
        for (int k = 1; k <= 49; k++) {
            check.due("type", x.type(Check.packed("        "), 8), 8 * k);
        }
        check.due("399", x.type(Check.packed("       "), 7), 399);
        check.refused("401", IllegalStateException.class, () -> x.type(Check.packed("  "), 2));
        check.refused("407", IllegalStateException.class, () -> x.type(Check.packed("        "), 8));
        check.refused("wrong goes before full", IllegalArgumentException.class, () -> x.type(9 << 8 | 32, 2));
        check.due("400", x.type('h', 1), 400);
        check.refused("full", IllegalStateException.class, () -> x.type(' ', 1));
        check.refused("wrong n, full", IllegalArgumentException.class, () -> x.type(' ', 0));
        check.refused("no character, full", IllegalArgumentException.class, () -> x.type(127, 1));
        check.due("clear", x.clear(), 400);
        check.due("type behind clear", x.type(' ', 1), 1);
    }

    private static void clearing(Check check) {
        TimedThreads x = new TimedThreads(1);
        check.due("clear of none", x.clear(), 0);
        Check.type(x, "oops");
        check.refused("assemble", IllegalArgumentException.class, () -> x.assemble(0, 0));
        check.due("clear", x.clear(), 4);
        check.due("clear again", x.clear(), 0);
        check.due("the fault stays", x.fault(0), 1);
        check.due("an empty text", x.assemble(0, 0), 0);
        check.due("has no fault", x.fault(0), 0);
    }
}
