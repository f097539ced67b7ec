import java.util.ArrayList;
import java.util.List;
import java.util.Set;
import java.util.TreeSet;
import java.util.function.Consumer;
import java.util.function.Supplier;
import java.util.function.ToLongFunction;

/**
 * Holds two objects with the same past against one another by everything that can be asked, one of them behind a call
 * that the other did not get. Both are made anew for each few questions, to stay within an object's 512 calls.
 */
final class Twin {
    private static final int AT_ONCE = 300;
    private static final List<String> NAMES = new ArrayList<>();
    private static final List<ToLongFunction<TimedThreads>> QUESTIONS = new ArrayList<>();

    static {
        for (int thread = 0; thread < 4; thread++) {
            askOfThread(thread);
        }
        for (int word = 0; word < 64; word++) {
            int w = word;
            ask("shared(" + w + ")", x -> x.shared(w));
        }
        ask("now()", TimedThreads::now);
        ask("fault(0)", x -> x.fault(0));
        ask("fault(1)", x -> x.fault(1));
        // It empties the text, so it is asked last.
        ask("clear()", TimedThreads::clear);
    }

    private Twin() {
    }

    private static void askOfThread(int t) {
        for (int k = 0; k < 128; k++) {
            int word = k;
            ask("peek(" + t + ", " + k + ")", x -> x.peek(t, word));
        }
        for (int k = 0; k < 16; k++) {
            int place = k;
            ask("register(" + t + ", " + k + ")", x -> x.register(t, place));
            for (int what = 0; what < 3; what++) {
                int w = what;
                ask("trace(" + t + ", " + k + ", " + what + ")", x -> x.trace(t, place, w));
            }
        }
        for (int k = 0; k < 8; k++) {
            int what = k;
            ask("state(" + t + ", " + k + ")", x -> x.state(t, what));
        }
    }

    private static void ask(String name, ToLongFunction<TimedThreads> question) {
        NAMES.add(name);
        QUESTIONS.add(question);
    }

    /** The questions that an object answers otherwise behind a call, when both then come to the same ending. */
    static Set<String> changes(Supplier<TimedThreads> past, Consumer<TimedThreads> call, Consumer<TimedThreads> ending) {
        Set<String> changed = new TreeSet<>();
        for (int from = 0; from < QUESTIONS.size(); from += AT_ONCE) {
            TimedThreads left = past.get();
            TimedThreads called = past.get();
            call.accept(called);
            ending.accept(left);
            ending.accept(called);
            for (int k = from; k < Math.min(QUESTIONS.size(), from + AT_ONCE); k++) {
                if (QUESTIONS.get(k).applyAsLong(left) != QUESTIONS.get(k).applyAsLong(called)) {
                    changed.add(NAMES.get(k));
                }
            }
        }
        return changed;
    }

    /** The questions that a call changes at once. */
    static Set<String> changes(Supplier<TimedThreads> past, Consumer<TimedThreads> call) {
        return changes(past, call, x -> { });
    }

    /** A call leaves all as it was: at once, in what the threads do next, and in what the text holds. */
    static void leavesAll(Check check, String name, Supplier<TimedThreads> past, Consumer<TimedThreads> call) {
        check.none(name + " changes", changes(past, call));
        check.none(name + " changes what comes", changes(past, call, x -> x.run(61)));
        check.none(name + " changes the text", changes(past, call, x -> quietly(() -> x.assemble(1, 70))));
    }

    /** Makes a call whose exception is looked at elsewhere. */
    static void quietly(Runnable call) {
        try {
            call.run();
        } catch (IllegalArgumentException | IllegalStateException | java.util.NoSuchElementException e) {
            return;
        }
    }

    /**
     * An object with something everywhere: thread 0 goes on in the shared memory, thread 1 is halted, thread 2 waits
     * for a timer, thread 3 has a fault; the latest assemble() had fault 2 in line 1, and a text without fault is there.
     */
    static TimedThreads busy() {
        TimedThreads x = new TimedThreads(3);
        Check.assemble(x, "lui x1,1;a:addi x2,x2,1;sw x2,28(x1);lw x3,28(x1);jal x0,a", 0, 0);
        Check.assemble(x, "addi x15,x0,-5;halt", 1, 126);
        Check.assemble(x, "addi x4,x0,9;dead 3,x4,50;dead 3,x4,60;cycle x5", 2, 3);
        Check.assemble(x, "cycle x6;sw x6,6(x0)", 3, 0);
        x.part(0, 7, 8);
        int[] from = {0, 504, 12, 0};
        for (int thread = 0; thread < 4; thread++) {
            x.start(thread, from[thread]);
        }
        x.run(46);
        Check.faultOf(x, "halt;word 4294967296", 3, 9);
        x.clear();
        Check.type(x, "word 7\nz:jal x1,z");
        return x;
    }
}
