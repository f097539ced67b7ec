import java.util.Set;

/**
 * The document's first line, and the edges in 'Terms' that TIME stands on: a test for each such sentence (it stands above
 * the test).
 */
public final class TimeEdgesTest {
    private static final Check CHECK = new Check();
    private static final int MIN = Integer.MIN_VALUE;
    private static final int MAX = Integer.MAX_VALUE;

    public static void main(String[] args) {
        turnsModulo4();
        notLessThanReady();
        retiresIn4();
        slotFromThisCycleOn();
        slotOfTheThread();
        noSlotInTheStore();
        noSlotForAFault();
        deadLessThanTheTimer();
        deadLeavesAll();
        deadNoLessThanTheCycle();
        deadAtMost();
        deadFaultWhileItWaits();
        cycleIsTheCycle();
        haltRetires();
        othersDoNotMatter();
        CHECK.end();
    }

    /** "in cycle c it is the turn of thread c modulo 4" */
    private static void turnsModulo4() {
        TimedThreads x = new TimedThreads(1);
        for (int thread = 0; thread < 4; thread++) {
            x.poke(thread, 0, 111);
            x.start(thread, 0);
        }
        for (int c = 0; c < 40; c++) {
            CHECK.due("cycle " + c, x.run(1), 1);
            CHECK.due("its thread", x.trace(c % 4, 0, 1), c);
            CHECK.due("did", x.state(c % 4, 2), c / 4 + 1);
        }
        TimedThreads y = new TimedThreads(1);
        y.poke(3, 0, 111);
        y.start(3, 0);
        for (int c = 0; c < 12; c++) {
            CHECK.due("a turn of a thread that does not run", y.run(1), c % 4 == 3 ? 1 : 0);
        }
    }

    /** "If that RUNS, and c is not less than its READY cycle, it does its next instruction" */
    private static void notLessThanReady() {
        // Wheel, thread, the READY cycle behind a shared load in cycle 4 + thread, and the cycle of the next one.
        int[][] cases = {{4, 0, 20, 20}, {1, 0, 5, 8}, {3, 0, 15, 16}, {2, 1, 12, 13}, {4, 1, 24, 25}, {3, 2, 9, 10},
            {2, 3, 16, 19}, {5, 3, 20, 23}, {3, 3, 12, 15}, {8, 3, 32, 35}, {1, 3, 8, 11}, {5, 1, 10, 13}, {7, 2, 21, 22},
            {5, 2, 15, 18}, {6, 1, 12, 13}};
        for (int[] c : cases) {
            String name = "wheel " + c[0] + ", thread " + c[1];
            TimedThreads x = Check.started(c[0], c[1], "lui x1,1;lw x2,0(x1);halt");
            x.part(c[1], 0, 1);
            x.run(5 + c[1]);
            CHECK.due(name + ": READY", x.state(c[1], 3), c[2]);
            CHECK.due(name + ": ahead of it", x.run(c[3] - 5 - c[1]), 0);
            CHECK.due(name + ": not less", x.run(1), 1);
            CHECK.due(name + ": the cycle", x.trace(c[1], 0, 1), c[3]);
        }
    }

    /** "which RETIRES in cycle c + 4; READY is c + 4 then" */
    private static void retiresIn4() {
        String[] all = {"lui x1,1", "jal x1,4", "jalr x1,4(x0)", "beq x0,x0,4", "bne x0,x0,4", "lw x1,0(x0)", "lb x1,511(x0)",
            "lbu x1,0(x0)", "sw x0,508(x0)", "sb x0,508(x0)", "addi x1,x0,1", "add x1,x0,x0", "dead 0,x0,2047", "cycle x1",
            "halt"};
        for (String line : all) {
            for (int thread = 0; thread < 4; thread++) {
                TimedThreads x = Check.started(8, thread, line);
                x.run(4);
                CHECK.due(line + ": done", x.trace(thread, 0, 1), thread);
                CHECK.due(line + ": retires", x.trace(thread, 0, 2), thread + 4);
                CHECK.due(line + ": READY", x.state(thread, 3), thread + 4);
            }
        }
    }

    /** "b the first cycle from c on which modulo 4 * w is w * the thread: it retires in b + w" */
    private static void slotFromThisCycleOn() {
        // Wheel, thread, the cycle c of a shared load, and b: in the slot's cycle, one ahead of it, and one behind it.
        int[][] cases = {{1, 0, 4, 4}, {1, 3, 7, 7}, {3, 0, 12, 12}, {3, 1, 13, 15}, {3, 1, 17, 27}, {3, 2, 6, 6}, {3, 2, 10, 18},
            {3, 3, 7, 9}, {3, 3, 11, 21}, {5, 1, 5, 5}, {5, 1, 9, 25}, {5, 3, 15, 15}, {5, 3, 19, 35}, {7, 3, 19, 21}, {7, 3, 23, 49},
            {8, 0, 32, 32}, {8, 0, 4, 32}, {8, 0, 36, 64}, {8, 3, 23, 24}, {8, 3, 27, 56}, {8, 1, 5, 8}, {8, 1, 9, 40}, {2, 1, 9, 10},
            {2, 1, 5, 10}, {2, 2, 6, 12}, {2, 2, 10, 12}, {2, 3, 7, 14}, {2, 3, 15, 22}, {2, 3, 11, 14}};
        for (int[] c : cases) {
            for (String access : new String[] {"lw x2,0(x1)", "lb x2,1(x1)", "lbu x2,2(x1)", "sw x2,0(x1)", "sb x2,3(x1)"}) {
                TimedThreads x = new TimedThreads(c[0]);
                Check.assemble(x, "lui x1,1;" + access, c[1], 0);
                x.part(c[1], 0, 1);
                x.run(c[2] - 4);
                x.start(c[1], 0);
                x.run(5);
                String name = access + ", wheel " + c[0] + ", thread " + c[1];
                CHECK.due(name + ": c", x.trace(c[1], 0, 1), c[2]);
                CHECK.due(name + ": retires", x.trace(c[1], 0, 2), c[3] + c[0]);
                CHECK.due(name + ": READY", x.state(c[1], 3), c[3] + c[0]);
            }
        }
    }

    /** "modulo 4 * w is w * the thread": the slot is the thread's, whatever the others do or whose part the word is. */
    private static void slotOfTheThread() {
        for (int others = 0; others < 2; others++) {
            TimedThreads x = new TimedThreads(2);
            for (int thread = 0; thread < 4; thread++) {
                if (others == 1 || thread == 2) {
                    Check.assemble(x, "lui x1,1;lw x2,0(x1);sw x2,4(x1);halt", thread, 0);
                    x.part(thread, 0, 2);
                    x.start(thread, 0);
                }
            }
            x.run(60);
            int[][] want = {{2, 6}, {6, 14}, {14, 22}, {22, 26}};
            for (int k = 0; k < want.length; k++) {
                CHECK.due("done", x.trace(2, 3 - k, 1), want[k][0]);
                CHECK.due("retires", x.trace(2, 3 - k, 2), want[k][1]);
            }
        }
    }

    /** "For a load or store in the shared memory": one in the store takes no slot. */
    private static void noSlotInTheStore() {
        for (String access : new String[] {"lw x2,508(x0)", "lb x2,511(x0)", "lbu x2,0(x0)", "sw x2,508(x0)", "sb x2,511(x0)"}) {
            TimedThreads x = Check.started(8, 3, access);
            x.part(3, 0, 64);
            x.run(4);
            CHECK.due(access + ": retires", x.trace(3, 0, 2), 7);
        }
    }

    /** A FAULT: "nothing of the instruction is done", so READY stays. */
    private static void noSlotForAFault() {
        TimedThreads x = Check.started(8, 3, "lui x1,1;lw x2,4(x1)");
        x.part(3, 0, 1);
        x.run(8);
        CHECK.due("a FAULT", x.state(3, 0), 3);
        CHECK.due("READY", x.state(3, 3), 7);
    }

    /** "dead: if c is less than the timer, nothing is done in this turn (it is tried again in the next one)" */
    private static void deadLessThanTheTimer() {
        // How far the timer is from the first dead, in cycle 0, and the cycle in which the second is done.
        int[][] cases = {{0, 4}, {1, 4}, {3, 4}, {4, 4}, {5, 8}, {7, 8}, {8, 8}, {9, 12}, {2047, 2048}};
        for (int[] c : cases) {
            TimedThreads x = Check.started(1, 0, "dead 2,x0," + c[0] + ";dead 2,x0,0");
            x.run(1);
            CHECK.due("timer", x.state(0, 6), c[0]);
            x.run(c[1] > 1999 ? 1999 : 0);
            CHECK.due("less than " + c[0], x.run(c[1] - x.now()), 0);
            CHECK.due("not less than " + c[0], x.run(1), 1);
            CHECK.due("the cycle", x.trace(0, 0, 1), c[1]);
        }
        TimedThreads x = Check.started(1, 0, "dead 0,x0,0");
        CHECK.due("cycle 0 is not less than a timer of 0", x.run(1), 1);
    }

    /** "nothing is done in this turn" */
    private static void deadLeavesAll() {
        Set<String> changed = Twin.changes(() -> waiting(), x -> x.run(40));
        CHECK.same("dead that waits changes", changed, Set.of("now()"));
        TimedThreads x = waiting();
        x.run(1995);
        CHECK.due("it runs", x.state(1, 0), 1);
        CHECK.due("the timer", x.state(1, 5), 2048);
        x.run(44);
        CHECK.due("its turns ahead of the timer", x.run(8), 0);
        CHECK.due("its first turn behind the timer", x.run(1), 1);
        CHECK.due("the cycle", x.trace(1, 0, 1), 2049);
    }

    private static TimedThreads waiting() {
        TimedThreads x = Check.started(1, 1, "dead 1,x0,2047;dead 1,x0,5");
        x.run(2);
        return x;
    }

    /** "the timer becomes c + RS + I (no less than c; sums as whole numbers without bounds ..)" */
    private static void deadNoLessThanTheCycle() {
        timerBecomes(0, 0, 6);
        timerBecomes(0, 1, 7);
        timerBecomes(0, -1, 6);
        timerBecomes(0, -6, 6);
        timerBecomes(0, -7, 6);
        timerBecomes(1, -1, 6);
        timerBecomes(2, -1, 7);
        timerBecomes(-1, 1, 6);
        timerBecomes(-1, 2, 7);
        timerBecomes(0, -2048, 6);
        timerBecomes(2048, -2048, 6);
        timerBecomes(2049, -2048, 7);
        timerBecomes(2047, -2048, 6);
        timerBecomes(-2047, 2047, 6);
        timerBecomes(-2046, 2047, 7);
        timerBecomes(MIN, 0, 6);
        timerBecomes(MIN, -1, 6);
        timerBecomes(MIN, -2048, 6);
        timerBecomes(MIN, 2047, 6);
    }

    /** "but at most 2147483647" */
    private static void deadAtMost() {
        timerBecomes(MAX, -8, MAX - 2);
        timerBecomes(MAX, -7, MAX - 1);
        timerBecomes(MAX, -6, MAX);
        timerBecomes(MAX, -5, MAX);
        timerBecomes(MAX, 0, MAX);
        timerBecomes(MAX, 1, MAX);
        timerBecomes(MAX, 2047, MAX);
        timerBecomes(MAX, -2048, MAX - 2042);
        timerBecomes(MAX - 7, 0, MAX - 1);
        timerBecomes(MAX - 6, 0, MAX);
        timerBecomes(MAX - 5, 0, MAX);
        timerBecomes(MAX - 2047, 2047, MAX);
        timerBecomes(MAX - 2053, 2047, MAX);
        timerBecomes(MAX - 2054, 2047, MAX - 1);
        TimedThreads x = Check.started(1, 2, "lw x1,400(x0);dead 1,x1,2047;dead 1,x0,0");
        x.poke(2, 100, MAX);
        x.run(2000);
        CHECK.due("it waits on", x.state(2, 2), 2);
        CHECK.due("for the highest timer", x.state(2, 5), MAX);
    }

    /** A timer of thread 2 behind dead in cycle 6. */
    private static void timerBecomes(int value, int number, int want) {
        TimedThreads x = Check.started(1, 2, "lw x1,400(x0);dead 1,x1," + number);
        x.poke(2, 100, value);
        CHECK.due("both are done", x.run(7), 2);
        CHECK.due("6 + " + value + " + " + number, x.state(2, 5), want);
        CHECK.due("it retires like others", x.trace(2, 0, 2), 10);
        CHECK.due("READY", x.state(2, 3), 10);
    }

    /** "registers above 15 where they are looked at": of dead also while its timer is later. */
    private static void deadFaultWhileItWaits() {
        TimedThreads x = Check.started(1, 0, "dead 1,x0,100");
        x.poke(0, 1, 11 | 1 << 7 | 16 << 15);
        x.run(8);
        CHECK.due("a FAULT", x.state(0, 0), 3);
        CHECK.due("the timer", x.state(0, 5), 100);
    }

    /** "cycle ..: RD = the cycle" in which it is done. */
    private static void cycleIsTheCycle() {
        for (int now : new int[] {0, 1, 2, 3, 4, 1999, 2000}) {
            TimedThreads x = new TimedThreads(1);
            Check.assemble(x, "cycle x15", 0, 127);
            x.run(now);
            x.start(0, 508);
            x.run(4);
            CHECK.due("cycle from " + now + " on", x.register(0, 15), (now + 3) / 4 * 4);
        }
    }

    /** "halt retires; the thread is HALTED." */
    private static void haltRetires() {
        TimedThreads x = Check.started(1, 0, "halt;addi x1,x0,1");
        CHECK.due("it is done", x.run(1), 1);
        CHECK.due("at once HALTED", x.state(0, 0), 2);
        CHECK.due("done", x.trace(0, 0, 1), 0);
        CHECK.due("retires", x.trace(0, 0, 2), 4);
        CHECK.due("no more", x.run(400), 0);
        CHECK.due("nothing behind it", x.register(0, 1), 0);
        CHECK.due("did", x.state(0, 2), 1);
    }

    /**
     * "what a thread does, and in which cycle, does not depend on the others, as long as their parts do not overlap": its
     * part here ends where theirs begin, or begins where theirs end.
     */
    private static void othersDoNotMatter() {
        String[] others = {"lui x1,1;lw x2,%1$d(x1);sb x2,%1$d(x1);cycle x3;sw x3,%1$d(x1);jal x4,-16",
            "lui x1,1;sw x1,64(x1);jal x0,-4", "lui x1,1;addi x2,x0,-1;sb x2,123(x1);jal x0,-4", "dead 0,x0,30;jal x0,-4",
            "cycle x1;halt", "word 0"};
        for (int wheel = 1; wheel <= 8; wheel++) {
            for (int thread = 0; thread < 4; thread++) {
                TimedThreads x = alone(wheel, thread);
                x.run(797);
                CHECK.due("it goes on", x.state(thread, 0), 1);
                CHECK.due("and came round a few times: " + x.register(thread, 2), x.register(thread, 2) > 3, true);
                for (String text : others) {
                    othersDo(wheel, thread, text);
                }
            }
        }
    }

    private static void othersDo(int wheel, int thread, String text) {
        Set<String> changed = Twin.changes(() -> alone(wheel, thread), x -> {
            for (int k = 1; k < 4; k++) {
                int other = (thread + k) % 4;
                Check.assemble(x, String.format(text, k == 1 ? 124 : 60), other, 0);
                x.part(other, k == 1 ? 31 : 0, k == 1 ? 64 : 16);
                x.start(other, 0);
            }
        }, x -> x.run(797));
        CHECK.due("the others do something", changed.isEmpty(), false);
        String its = "(peek|register|state|trace)\\(" + thread + ",.*|shared\\((1[6-9]|2[0-9]|30)\\)";
        changed.removeIf(question -> !question.matches(its));
        CHECK.none("thread " + thread + ", wheel " + wheel + ", among \"" + text + "\":", changed);
    }

    /** A thread that goes on in its store, by a timer and in the ends of its part; x6 sums up what it finds there. */
    private static TimedThreads alone(int wheel, int thread) {
        TimedThreads x = Check.started(wheel, thread, "lui x1,1;addi x2,x2,1;lw x3,64(x1);add x6,x6,x3;sw x2,64(x1);"
            + "lbu x3,123(x1);add x6,x6,x3;dead 0,x0,37;cycle x4;sb x4,123(x1);sw x4,256(x0);jalr x5,4(x0)");
        x.part(thread, 16, 31);
        return x;
    }
}
