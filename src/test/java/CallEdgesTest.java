import java.util.NoSuchElementException;
import java.util.Set;
import java.util.function.Consumer;
import java.util.function.Function;
import java.util.function.Supplier;
import java.util.function.ToIntFunction;

/**
 * The edges that promises 1 to 11 name, a test for each such sentence (it stands above the test): the last that is
 * taken, the first that is refused, and what stays as it was behind a refused call.
 */
public final class CallEdgesTest {
    private static final Check CHECK = new Check();
    private static final int[] NO_THREADS = {-1, 4, Integer.MIN_VALUE, Integer.MAX_VALUE};
    private static final int[] NO_WORDS = {-1, 128, Integer.MIN_VALUE, Integer.MAX_VALUE};
    private static final int[] ENDS = {0, 127};
    private static final int[] VALUES = {0, 1, -1, Integer.MIN_VALUE, Integer.MAX_VALUE};

    public static void main(String[] args) {
        newWheel();
        typeOneToEight();
        typeCharacters();
        typeLowestBytes();
        typeUpTo400();
        typeNothingThen();
        clearEmptyAndFull();
        assembleTextStays();
        assembleFromAWord();
        assembleNoSuch();
        assembleFault();
        faultBeforeAny();
        faultOfTheLatest();
        faultForOthers();
        faultLines();
        peekAndPoke();
        pokeNoneSuch();
        sharedNone();
        partBounds();
        partRefused();
        partsInCommon();
        startNone();
        startAnywhere();
        startWhateverItDid();
        startReady();
        runBounds();
        runCounts();
        CHECK.end();
    }

    /** Promise 1: "The WHEEL is wheel, but at least 1 and at most 8." */
    private static void newWheel() {
        int[][] wheels = {{Integer.MIN_VALUE, 1}, {-1, 1}, {0, 1}, {1, 1}, {2, 2}, {7, 7}, {8, 8}, {9, 8},
            {Integer.MAX_VALUE, 8}};
        for (int[] pair : wheels) {
            for (int thread = 0; thread < 4; thread++) {
                TimedThreads x = Check.started(pair[0], thread, "lui x1,1;lw x2,0(x1)");
                x.part(thread, 0, 1);
                CHECK.due("run(8)", x.run(8), 2);
                int w = pair[1];
                int b = 4 + thread;
                while (b % (4 * w) != w * thread) {
                    b++;
                }
                CHECK.due("wheel " + pair[0] + ", thread " + thread, x.trace(thread, 0, 2), b + w);
            }
        }
    }

    /** Promise 2: "IllegalArgumentException: n is not 1 .. 8" */
    private static void typeOneToEight() {
        for (int n = 1; n <= 8; n++) {
            CHECK.due("type " + n, new TimedThreads(1).type(Check.packed("aaaaaaaa"), n), n);
        }
        for (int n : new int[] {0, 9, -1, Integer.MIN_VALUE, Integer.MAX_VALUE}) {
            refused("type(.., " + n + ")", IllegalArgumentException.class, x -> x.type(Check.packed("aaaaaaaa"), n));
        }
    }

    /** Promise 2: "or one is no character"; Terms: "characters 10 or 32 .. 126" */
    private static void typeCharacters() {
        for (int c = 0; c < 256; c++) {
            for (int place = 0; place < 8; place++) {
                long typed = Check.packed("aaaaaaaa") & ~(255L << 8 * place) | (long) c << 8 * place;
                TimedThreads x = new TimedThreads(1);
                if (c == 10 || c >= 32 && c <= 126) {
                    CHECK.due("character " + c, x.type(typed, 8), 8);
                } else {
                    CHECK.refused("character " + c, IllegalArgumentException.class, () -> x.type(typed, 8));
                    CHECK.due("is not typed", x.clear(), 0);
                }
            }
        }
        for (int c : new int[] {0, 9, 11, 31, 127, 128, 255}) {
            long typed = (long) c << 56 | Check.packed("aaaaaaa");
            refused("character " + c, IllegalArgumentException.class, x -> x.type(typed, 8));
        }
    }

    /** Promise 2: "The n lowest bytes of a number are typed, the lowest first" */
    private static void typeLowestBytes() {
        for (int n = 1; n < 8; n++) {
            long above = -1L << 8 * n;
            TimedThreads x = new TimedThreads(1);
            CHECK.due("bytes above " + n, x.type(above | Check.packed("       ".substring(0, n)), n), n);
            CHECK.due("are not typed", x.assemble(0, 0), 0);
        }
        TimedThreads x = new TimedThreads(1);
        x.type(Check.packed("word 123"), 8);
        x.type(Check.packed("45"), 2);
        x.assemble(0, 0);
        CHECK.due("the lowest first", x.peek(0, 0), 12345);
    }

    /** Promise 2: "IllegalStateException: there would be more than 400." */
    private static void typeUpTo400() {
        for (int n = 1; n <= 8; n++) {
            int size = n;
            TimedThreads x = filled(400 - n);
            CHECK.due("up to 400 by " + n, x.type(Check.packed("        "), n), 400);
            TimedThreads y = filled(401 - n);
            CHECK.refused("up to 401 by " + n, IllegalStateException.class, () -> y.type(Check.packed("        "), size));
            CHECK.due("nothing is typed", y.clear(), 401 - n);
            TimedThreads z = filled(400);
            CHECK.refused("400 and " + n, IllegalStateException.class, () -> z.type(Check.packed("        "), size));
            CHECK.due("nothing is typed", z.clear(), 400);
        }
        TimedThreads x = filled(400);
        CHECK.refused("no n, and full", IllegalArgumentException.class, () -> x.type(32, 0));
        CHECK.refused("too large an n, and full", IllegalArgumentException.class, () -> x.type(32, 9));
        CHECK.refused("no character, and full", IllegalArgumentException.class, () -> x.type(31, 1));
        CHECK.due("nothing is typed", x.clear(), 400);
    }

    private static TimedThreads filled(int characters) {
        TimedThreads x = new TimedThreads(1);
        Check.type(x, " ".repeat(characters));
        return x;
    }

    /** Promise 2: "Nothing is typed then." */
    private static void typeNothingThen() {
        TimedThreads x = new TimedThreads(1);
        x.type(Check.packed("word 1"), 6);
        CHECK.refused("the second is wrong", IllegalArgumentException.class, () -> x.type(9 << 8 | '2', 2));
        CHECK.refused("n is wrong", IllegalArgumentException.class, () -> x.type('2', 9));
        CHECK.due("goes on", x.type('3', 1), 7);
        x.assemble(0, 0);
        CHECK.due("where it was", x.peek(0, 0), 13);
        Supplier<TimedThreads> full = () -> {
            TimedThreads y = new TimedThreads(1);
            Check.type(y, " ".repeat(390) + "word 12");
            return y;
        };
        leavesAll("a full text", full, y -> y.type(Check.packed("3456"), 4));
        TimedThreads z = full.get();
        CHECK.due("399", z.type(Check.packed("78"), 2), 399);
        CHECK.refused("401", IllegalStateException.class, () -> z.type(Check.packed("99"), 2));
        CHECK.due("400", z.type('6', 1), 400);
        z.assemble(0, 0);
        CHECK.due("the word at the end", z.peek(0, 0), 12786);
    }

    /** Promise 3: "The text becomes empty: how many characters it had." */
    private static void clearEmptyAndFull() {
        TimedThreads x = new TimedThreads(1);
        CHECK.due("an empty text", x.clear(), 0);
        Check.type(x, "?".repeat(400));
        CHECK.due("a full text", x.clear(), 400);
        CHECK.due("empty again", x.clear(), 0);
        CHECK.due("nothing is left", x.assemble(0, 0), 0);
        Check.type(x, ";".repeat(392) + "word 345");
        x.assemble(0, 0);
        CHECK.due("a full text again", x.peek(0, 0), 345);
        CHECK.due("one character", cleared("a"), 1);
        CHECK.due("what was typed before is not read on", leftover("x:jal x0,x", "5"), 111);
        CHECK.due("nor are its digits", leftover("word 12", "34"), 12);
        CHECK.due("nor are its letters", leftover("halt", "er"), 115);
        CHECK.due("nor is its line", leftover("word 7", ";nop"), 7);
        CHECK.same("clear() changes", Twin.changes(Twin::busy, TimedThreads::clear), Set.of("clear()"));
    }

    /** The word of a text that is typed over a longer one. */
    private static int leftover(String text, String rest) {
        TimedThreads x = new TimedThreads(1);
        Check.type(x, text + rest);
        x.clear();
        Check.type(x, text);
        x.assemble(2, 0);
        return x.peek(2, 0);
    }

    private static int cleared(String text) {
        TimedThreads x = new TimedThreads(1);
        Check.type(x, text);
        return x.clear();
    }

    /** Promise 4: "The text (which stays) is assembled" */
    private static void assembleTextStays() {
        TimedThreads x = new TimedThreads(1);
        CHECK.due("an empty text", x.assemble(0, 127), 0);
        Check.type(x, "halt;word 9");
        CHECK.due("once", x.assemble(0, 0), 2);
        CHECK.due("twice", x.assemble(3, 126), 2);
        CHECK.due("put once", x.peek(0, 1), 9);
        CHECK.due("put twice", x.peek(3, 127), 9);
        CHECK.due("typed behind it", x.type('8', 1), 12);
        CHECK.due("three times", x.assemble(1, 5), 2);
        CHECK.due("put then", x.peek(1, 6), 98);
        CHECK.due("all that was typed", x.clear(), 12);
    }

    /** Promise 4: "into the store of a thread from a word (0 .. 127) on: how many words" */
    private static void assembleFromAWord() {
        for (int thread = 0; thread < 4; thread++) {
            for (int from : new int[] {0, 1, 63, 125, 126, 127}) {
                for (int count = 0; count <= 2; count++) {
                    assembledAlone(thread, from, count);
                }
            }
        }
    }

    private static void assembledAlone(int thread, int from, int count) {
        if (from + count > 128) {
            return;
        }
        TimedThreads x = new TimedThreads(1);
        for (int t = 0; t < 4; t++) {
            for (int word = Math.max(0, from - 3); word < Math.min(128, from + 4); word++) {
                x.poke(t, word, 7);
            }
        }
        Check.type(x, "a:;word 5;word 5;".substring(0, 3 + 7 * count));
        CHECK.due(count + " words at " + from, x.assemble(thread, from), count);
        for (int t = 0; t < 4; t++) {
            for (int word = Math.max(0, from - 3); word < Math.min(128, from + 4); word++) {
                boolean put = t == thread && word >= from && word < from + count;
                CHECK.due(count + " words at " + from + ": word " + word, x.peek(t, word), put ? 5 : 7);
            }
        }
    }

    /** Promise 4: "NoSuchElementException: no such thread or word" */
    private static void assembleNoSuch() {
        for (int thread : NO_THREADS) {
            for (int word : ENDS) {
                refused("assemble(" + thread + ", " + word + ")", NoSuchElementException.class, x -> x.assemble(thread, word));
            }
        }
        for (int word : NO_WORDS) {
            for (int thread = 0; thread < 4; thread++) {
                int t = thread;
                refused("assemble(" + t + ", " + word + ")", NoSuchElementException.class, x -> x.assemble(t, word));
            }
        }
        TimedThreads x = new TimedThreads(1);
        CHECK.refused("an empty text too", NoSuchElementException.class, () -> x.assemble(0, 128));
        Check.type(x, "nop");
        CHECK.refused("no place and a fault", NoSuchElementException.class, () -> x.assemble(4, 0));
        CHECK.due("the fault is not found", x.fault(0), 0);
    }

    /** Promise 4: "IllegalArgumentException: a fault (nothing is put)" */
    private static void assembleFault() {
        String labels = "a:;b:;c:;d:;e:;f:;g:;h:;i:;j:;k:;l:;m:;n:;o:;p:;";
        String[] texts = {"word 8;nop", "word 8;word 4294967296", "word 8;jal x0,none", "word 8;a:;word 9;a:",
            labels + "word 8;q:", "word 8;word 8;word 8;word 8"};
        int[] kinds = {1, 2, 3, 3, 4, 4};
        for (int k = 0; k < texts.length; k++) {
            String text = texts[k];
            // The fault is found once ahead, so that the refused call leaves fault() too.
            Supplier<TimedThreads> past = () -> {
                TimedThreads x = Twin.busy();
                CHECK.refused(text, IllegalArgumentException.class, () -> Check.assemble(x, text, 2, 125));
                return x;
            };
            CHECK.due("fault of " + text, past.get().fault(0), kinds[k]);
            leavesAll(text, past, x -> x.assemble(3, 125));
        }
    }

    /** Promise 5: "0 for others, or when there was none." */
    private static void faultBeforeAny() {
        TimedThreads x = new TimedThreads(1);
        Check.type(x, "halt;nop");
        for (int what : new int[] {-1, 0, 1, 2}) {
            CHECK.due("no assemble() yet: fault(" + what + ")", x.fault(what), 0);
        }
        CHECK.refused("no thread", NoSuchElementException.class, () -> x.assemble(4, 0));
        CHECK.refused("no word", NoSuchElementException.class, () -> x.assemble(0, 128));
        CHECK.due("none that found its place: fault(0)", x.fault(0), 0);
        CHECK.due("none that found its place: fault(1)", x.fault(1), 0);
    }

    /** Promise 5: "Of the latest assemble() that found a thread and a word: .. its fault (0 for none), 1 the line .. (0 for none)" */
    private static void faultOfTheLatest() {
        TimedThreads x = new TimedThreads(1);
        Check.type(x, ";;word 9999999999");
        CHECK.refused("a fault", IllegalArgumentException.class, () -> x.assemble(0, 0));
        faultIs(x, 2, 2);
        CHECK.refused("no thread", NoSuchElementException.class, () -> x.assemble(-1, 0));
        CHECK.refused("no word", NoSuchElementException.class, () -> x.assemble(0, -1));
        faultIs(x, 2, 2);
        x.clear();
        faultIs(x, 2, 2);
        Check.type(x, ";;;;jal x0,a");
        faultIs(x, 2, 2);
        CHECK.refused("another fault", IllegalArgumentException.class, () -> x.assemble(3, 127));
        faultIs(x, 3, 4);
        Check.type(x, ";a:");
        CHECK.due("no fault", x.assemble(1, 1), 1);
        faultIs(x, 0, 0);
        CHECK.refused("no thread", NoSuchElementException.class, () -> x.assemble(4, 1));
        faultIs(x, 0, 0);
        Check.type(x, ";;?");
        CHECK.refused("a fault again", IllegalArgumentException.class, () -> x.assemble(1, 1));
        faultIs(x, 1, 7);
        x.clear();
        CHECK.due("an empty text", x.assemble(1, 1), 0);
        faultIs(x, 0, 0);
    }

    private static void faultIs(TimedThreads x, int kind, int line) {
        CHECK.due("fault(0)", x.fault(0), kind);
        CHECK.due("fault(1)", x.fault(1), line);
    }

    /** Promise 5: "0 for others" */
    private static void faultForOthers() {
        for (int what : new int[] {-1, 2, 3, Integer.MIN_VALUE, Integer.MAX_VALUE}) {
            answers("fault(" + what + ")", 0, x -> x.fault(what));
        }
        CHECK.due("while there is one", Twin.busy().fault(0), 2);
        CHECK.due("and its line", Twin.busy().fault(1), 1);
    }

    /** Promise 5: "1 the line (from 0) with it" */
    private static void faultLines() {
        for (int line : new int[] {0, 1, 15, 128, 398, 399}) {
            TimedThreads x = new TimedThreads(1);
            CHECK.due("a fault in line " + line, Check.faultOf(x, ";\n".repeat(200).substring(0, line) + "?", 0, 0), 1000 + line);
        }
    }

    /** Promises 6 and 7: "A word of a thread's store." "Puts a word into a thread's store: true." */
    private static void peekAndPoke() {
        for (int thread = 0; thread < 4; thread++) {
            int t = thread;
            for (int word : ENDS) {
                for (int value : VALUES) {
                    TimedThreads x = new TimedThreads(1);
                    CHECK.due("poke", x.poke(t, word, value), true);
                    CHECK.due("peek", x.peek(t, word), value);
                }
                CHECK.same("poke changes", Twin.changes(CallEdgesTest::sevens, x -> x.poke(t, word, 8)),
                    Set.of("peek(" + t + ", " + word + ")"));
            }
        }
    }

    /** An object whose ends of stores hold a 7, so that a call that goes astray shows. */
    private static TimedThreads sevens() {
        TimedThreads x = new TimedThreads(1);
        for (int thread = 0; thread < 4; thread++) {
            for (int word : new int[] {0, 1, 126, 127}) {
                x.poke(thread, word, 7);
            }
        }
        return x;
    }

    /** Promise 6: "0 when there is none." Promise 7: "False when there is none such." */
    private static void pokeNoneSuch() {
        for (int thread : NO_THREADS) {
            for (int word : ENDS) {
                noneSuch(thread, word);
            }
        }
        for (int word : NO_WORDS) {
            for (int thread = 0; thread < 4; thread++) {
                noneSuch(thread, word);
            }
        }
    }

    private static void noneSuch(int thread, int word) {
        TimedThreads x = sevens();
        CHECK.due("peek(" + thread + ", " + word + ")", x.peek(thread, word), 0);
        CHECK.due("poke(" + thread + ", " + word + ", 9)", x.poke(thread, word, 9), false);
        CHECK.due("peek then", x.peek(thread, word), 0);
        leavesAll("poke(" + thread + ", " + word + ", 9)", CallEdgesTest::sevens, y -> y.poke(thread, word, 9));
    }

    /** Promise 8: "A word of the shared memory. 0 when there is none." */
    private static void sharedNone() {
        TimedThreads x = new TimedThreads(1);
        Check.assemble(x, "lui x1,1;addi x2,x1,256;a:sw x1,0(x1);addi x1,x1,4;bne x1,x2,a;halt", 0, 0);
        x.part(0, 0, 64);
        x.start(0, 0);
        x.run(2000);
        for (int word = 0; word < 64; word++) {
            CHECK.due("shared(" + word + ")", x.shared(word), 4096 + 4 * word);
        }
        for (int word : new int[] {-1, 64, 65, 4096, Integer.MIN_VALUE, Integer.MAX_VALUE}) {
            CHECK.due("shared(" + word + ")", x.shared(word), 0);
        }
    }

    /** Promise 9: "False when there is no such thread, low is not 0 .. high, or high is above 64." */
    private static void partBounds() {
        int[][] right = {{0, 0}, {0, 1}, {0, 64}, {1, 1}, {63, 64}, {64, 64}, {32, 33}};
        int[][] wrong = {{-1, 0}, {-1, 64}, {1, 0}, {64, 63}, {33, 32}, {0, 65}, {64, 65}, {65, 65}, {65, 64}, {0, -1},
            {-1, -1}, {-2, -1}, {Integer.MIN_VALUE, 1}, {0, Integer.MAX_VALUE}, {0, Integer.MIN_VALUE},
            {Integer.MIN_VALUE, Integer.MAX_VALUE}, {Integer.MAX_VALUE, Integer.MAX_VALUE}};
        for (int thread = 0; thread < 4; thread++) {
            for (int[] p : right) {
                CHECK.due("part " + p[0] + " " + p[1], new TimedThreads(1).part(thread, p[0], p[1]), true);
            }
            for (int[] p : wrong) {
                CHECK.due("part " + p[0] + " " + p[1], new TimedThreads(1).part(thread, p[0], p[1]), false);
            }
        }
        for (int thread : NO_THREADS) {
            CHECK.due("part of " + thread, new TimedThreads(1).part(thread, 0, 1), false);
        }
    }

    /** Promise 9, refused: the PART that the thread had stays, and those of the others. */
    private static void partRefused() {
        int[][] calls = {{2, -1, 64}, {2, 21, 20}, {2, 0, 65}, {2, 0, -1}, {-1, 0, 64}, {4, 0, 64}};
        for (int[] call : calls) {
            Consumer<TimedThreads> refused = x -> CHECK.due("part", x.part(call[0], call[1], call[2]), false);
            for (int thread = 0; thread < 4; thread++) {
                partIs(thread, 10, 20, refused);
            }
            leavesAll("part", Twin::busy, refused);
        }
        for (int thread = 0; thread < 4; thread++) {
            partIs(thread, 0, 64, x -> { });
            partIs(thread, 63, 64, x -> { });
            partIs(thread, 5, 5, x -> { });
            partIs(thread, 64, 64, x -> { });
            partIs(thread, 0, 0, x -> { });
        }
    }

    private static void partIs(int thread, int low, int high, Consumer<TimedThreads> call) {
        for (int word : new int[] {low - 1, low, high - 1, high}) {
            TimedThreads x = Check.started(1, thread, "lui x1,1;lw x2," + 4 * word + "(x1)");
            x.part(thread, low, high);
            call.accept(x);
            CHECK.due("word " + word + " of " + low + " .. " + high, x.run(12), word >= low && word < high ? 2 : 1);
        }
    }

    /** Promise 9: "(parts of several threads may have words in common): true" */
    private static void partsInCommon() {
        TimedThreads x = new TimedThreads(1);
        for (int thread = 0; thread < 4; thread++) {
            CHECK.due("part", x.part(thread, 5, 6), true);
            Check.assemble(x, "lui x1,1;lw x2,20(x1);addi x2,x2,1;sw x2,20(x1);halt", thread, 0);
            x.start(thread, 0);
            x.run(100);
            CHECK.due("thread " + thread, x.shared(5), thread + 1);
        }
    }

    /** Promise 10: "False when there is none." */
    private static void startNone() {
        for (int thread : NO_THREADS) {
            answers("start(" + thread + ", 0)", 0, x -> x.start(thread, 0) ? 1 : 0);
        }
    }

    /** Promise 10: "from a byte address on (any: where no instruction can be it is a FAULT in its turn)" */
    private static void startAnywhere() {
        int[][] places = {{0, 1}, {4, 1}, {504, 1}, {508, 1}, {-4, 0}, {-1, 0}, {1, 0}, {2, 0}, {3, 0}, {507, 0}, {509, 0},
            {510, 0}, {511, 0}, {512, 0}, {4096, 0}, {Integer.MIN_VALUE, 0}, {Integer.MAX_VALUE, 0},
            {Integer.MAX_VALUE - 3, 0}};
        for (int[] place : places) {
            TimedThreads x = new TimedThreads(1);
            for (int word : new int[] {0, 1, 126, 127}) {
                x.poke(3, word, 19);
            }
            x.part(3, 0, 64);
            String name = "start at " + place[0];
            CHECK.due(name, x.start(3, place[0]), true);
            CHECK.due(name + ": ahead of its turn", x.run(3), 0);
            CHECK.due(name + ": it runs", x.state(3, 0), 1);
            CHECK.due(name + ": its address", x.state(3, 1), place[0]);
            CHECK.due(name + ": in its turn", x.run(1), place[1]);
            CHECK.due(name + ": then", x.state(3, 0), place[1] == 1 ? 1 : 3);
            CHECK.due(name + ": then its address", x.state(3, 1), place[0] + 4 * place[1]);
            CHECK.due(name + ": it did", x.state(3, 2), place[1]);
        }
    }

    /** Promise 10: "whatever it did, .. (registers, timers, store, and what it did before stay)" */
    private static void startWhateverItDid() {
        for (int thread = 0; thread < 4; thread++) {
            int t = thread;
            Set<String> changed = Twin.changes(Twin::busy, x -> CHECK.due("start", x.start(t, 400), true));
            changed.remove("state(" + t + ", 0)");
            CHECK.same("start changes", changed, Set.of("state(" + t + ", 1)", "state(" + t + ", 3)"));
            TimedThreads x = Twin.busy();
            x.poke(t, 100, 115);
            int did = x.state(t, 2);
            x.start(t, 400);
            CHECK.due("it runs", x.state(t, 0), 1);
            x.run(4);
            CHECK.due("and does one", x.state(t, 2), did + 1);
            CHECK.due("from there", x.trace(t, 0, 0), 400);
        }
        startWhileATimerIsLater();
    }

    private static void startWhileATimerIsLater() {
        TimedThreads x = Check.started(1, 0, "dead 0,x0,30;dead 0,x0,0");
        x.run(12);
        x.start(0, 4);
        CHECK.due("the timer stays, so it waits on", x.run(20), 0);
        CHECK.due("until then", x.run(1), 1);
    }

    /** Promise 10: "READY from this cycle on" */
    private static void startReady() {
        for (int now = 0; now < 9; now++) {
            for (int thread = 0; thread < 4; thread++) {
                TimedThreads x = new TimedThreads(8);
                x.poke(thread, 0, 115);
                x.run(now);
                x.start(thread, 0);
                CHECK.due("READY", x.state(thread, 3), now);
                x.run(4);
                CHECK.due("the first turn from " + now + " on", x.trace(thread, 0, 1), now + Math.floorMod(thread - now, 4));
            }
        }
        TimedThreads x = Check.started(8, 1, "lui x1,1;lw x2,0(x1);halt");
        x.part(1, 0, 1);
        x.run(9);
        CHECK.due("READY by the wheel", x.state(1, 3), 16);
        x.start(1, 8);
        CHECK.due("READY by start", x.state(1, 3), 9);
        CHECK.due("so it goes on at once", x.run(1), 1);
    }

    /** Promise 11: "-1 when n is not 0 .. 2000" */
    private static void runBounds() {
        TimedThreads x = new TimedThreads(1);
        x.poke(0, 0, 111);
        x.start(0, 0);
        CHECK.due("run(0)", x.run(0), 0);
        CHECK.due("no cycle", x.now(), 0);
        CHECK.due("run(2000)", x.run(2000), 500);
        CHECK.due("2000 cycles", x.now(), 2000);
        CHECK.due("run(1)", x.run(1), 1);
        CHECK.due("run(1999)", x.run(1999), 499);
        CHECK.due("all cycles", x.now(), 4000);
        CHECK.none("run(0) changes", Twin.changes(Twin::busy, y -> y.run(0)));
        for (int n : new int[] {-1, 2001, -2000, Integer.MIN_VALUE, Integer.MAX_VALUE}) {
            answers("run(" + n + ")", -1, y -> y.run(n));
        }
    }

    /** Promise 11: "(those with a FAULT, and dead that is to be tried again, not)" */
    private static void runCounts() {
        TimedThreads x = new TimedThreads(1);
        Check.assemble(x, "dead 0,x0,8;dead 0,x0,0;halt", 0, 0);
        x.poke(1, 0, 0);
        x.poke(2, 0, 115);
        for (int thread = 0; thread < 3; thread++) {
            x.start(thread, 0);
        }
        int[] want = {1, 0, 1, 0, 0, 0, 0, 0, 1, 0, 0, 0, 1, 0};
        for (int c = 0; c < want.length; c++) {
            CHECK.due("done in cycle " + c, x.run(1), want[c]);
        }
    }

    private static void refused(String call, Class<? extends Exception> want, Function<TimedThreads, Object> body) {
        CHECK.refused(call, want, () -> body.apply(Twin.busy()));
        leavesAll(call, Twin::busy, body::apply);
    }

    private static void answers(String call, int want, ToIntFunction<TimedThreads> body) {
        CHECK.due(call, body.applyAsInt(Twin.busy()), want);
        leavesAll(call, Twin::busy, body::applyAsInt);
    }

    private static void leavesAll(String call, Supplier<TimedThreads> past, Consumer<TimedThreads> body) {
        Twin.leavesAll(CHECK, call, past, x -> Twin.quietly(() -> body.accept(x)));
    }
}
