import java.util.Set;
import java.util.concurrent.Callable;

/** What the tests share: counting wrong answers, typing a text, asking for exceptions. */
final class Check {
    private int wrong;
    private int asked;

    void due(String call, long got, long want) {
        asked++;
        if (got != want) {
            wrong++;
            System.out.println(call + " answered " + got + ", due is " + want);
        }
    }

    void due(String call, boolean got, boolean want) {
        due(call, got ? 1 : 0, want ? 1 : 0);
    }

    void none(String what, Set<String> found) {
        same(what, found, Set.of());
    }

    void same(String what, Set<String> found, Set<String> want) {
        asked++;
        if (!found.equals(want)) {
            wrong++;
            System.out.println(what + " " + found + ", due is " + want);
        }
    }

    void refused(String call, Class<? extends Exception> want, Callable<?> body) {
        asked++;
        String got;
        try {
            got = "answered " + body.call();
        } catch (Exception e) {
            if (e.getClass() == want) {
                return;
            }
            got = "throws " + e;
        }
        wrong++;
        System.out.println(call + " " + got + ", due is " + want.getSimpleName());
    }

    /** Types a text behind what is there, in bites of up to eight characters. */
    static void type(TimedThreads x, String text) {
        for (int from = 0; from < text.length(); from += 8) {
            String bite = text.substring(from, Math.min(text.length(), from + 8));
            x.type(packed(bite), bite.length());
        }
    }

    /** Up to eight characters as one number, the first in the lowest byte. */
    static long packed(String bite) {
        long number = 0;
        for (int k = bite.length() - 1; k >= 0; k--) {
            number = (number << 8) | bite.charAt(k);
        }
        return number;
    }

    /** Puts a text in place of the one that is there and assembles it. */
    static int assemble(TimedThreads x, String text, int thread, int word) {
        x.clear();
        type(x, text);
        return x.assemble(thread, word);
    }

    /** A new object whose thread has this program from word 0 on and is started there. */
    static TimedThreads started(int wheel, int thread, String text) {
        TimedThreads x = new TimedThreads(wheel);
        assemble(x, text, thread, 0);
        x.start(thread, 0);
        return x;
    }

    /** The fault of a text, as its kind * 1000 + its line; 0 for none. */
    static int faultOf(TimedThreads x, String text, int thread, int word) {
        try {
            assemble(x, text, thread, word);
        } catch (IllegalArgumentException e) {
            return x.fault(0) * 1000 + x.fault(1);
        }
        return x.fault(0) * 1000 + x.fault(1);
    }

    void end() {
        System.out.println(asked + " asked, " + wrong + " wrong");
        if (wrong != 0 || asked == 0) {
            System.exit(1);
        }
    }
}
