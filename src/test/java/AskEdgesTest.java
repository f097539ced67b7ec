/**
 * The edges that promises 12 to 15 name, and the 512 calls of an object: a test for each such sentence (it stands above
 * the test).
 */
public final class AskEdgesTest {
    private static final Check CHECK = new Check();
    private static final int MIN = Integer.MIN_VALUE;
    private static final int MAX = Integer.MAX_VALUE;
    private static final int[] NO_THREADS = {-1, 4, MIN, MAX};

    public static void main(String[] args) {
        useFor512Calls();
        nowComesNext();
        registerNone();
        stateNone();
        stateNeverRan();
        stateRuns();
        stateHalted();
        stateFault();
        stateCounts();
        stateTimers();
        traceUpTo15();
        traceNone();
        traceOfDone();
        CHECK.end();
    }

    /** "An object is used for at most 512 calls after it has been made" */
    private static void useFor512Calls() {
        TimedThreads x = new TimedThreads(1);
        for (int thread = 0; thread < 4; thread++) {
            x.poke(thread, 0, 111);
            x.start(thread, 0);
        }
        for (int call = 8; call < 510; call++) {
            CHECK.due("run(2000), call " + call, x.run(2000), 2000);
        }
        CHECK.due("the 511th call", x.now(), 502 * 2000);
        CHECK.due("the 512th call", x.trace(3, 0, 2), 502 * 2000 + 3);
        TimedThreads y = new TimedThreads(1);
        Check.type(y, "a:jal x1,a;" + "halt;".repeat(77));
        for (int call = 50; call < 511; call++) {
            CHECK.due("assemble, call " + call, y.assemble(call & 3, call % 51), 78);
        }
        CHECK.due("the 512th call", y.peek(3, 50), 115);
    }

    /** Promise 12: "The cycle that comes next." */
    private static void nowComesNext() {
        TimedThreads x = new TimedThreads(1);
        CHECK.due("at first", x.now(), 0);
        x.run(0);
        CHECK.due("behind run(0)", x.now(), 0);
        x.run(1);
        CHECK.due("behind run(1)", x.now(), 1);
        x.run(-1);
        x.run(2001);
        CHECK.due("behind a refused run()", x.now(), 1);
        x.run(2000);
        CHECK.due("behind run(2000)", x.now(), 2001);
        x.start(0, 0);
        x.part(0, 0, 1);
        CHECK.due("behind other calls", x.now(), 2001);
        Check.assemble(x, "cycle x1", 1, 0);
        x.start(1, 0);
        x.run(1);
        CHECK.due("it was the next", x.register(1, 1), 2001);
    }

    /** Promise 13: "Register k of a thread; 0 when there is none." */
    private static void registerNone() {
        for (int thread = 0; thread < 4; thread++) {
            TimedThreads x = withRegisters(thread);
            CHECK.due("register 0", x.register(thread, 0), 0);
            for (int k = 1; k < 16; k++) {
                CHECK.due("register " + k, x.register(thread, k), 100 + k);
            }
            for (int k : new int[] {-1, 16, 17, 31, 32, MIN, MAX}) {
                CHECK.due("register(" + thread + ", " + k + ")", x.register(thread, k), 0);
            }
        }
        for (int thread : NO_THREADS) {
            for (int k : new int[] {0, 1, 15, -1, 16}) {
                CHECK.due("register(" + thread + ", " + k + ")", withRegisters(thread & 3).register(thread, k), 0);
            }
        }
    }

    /** A thread with 100 + k in each register k, but for x0. */
    private static TimedThreads withRegisters(int thread) {
        StringBuilder text = new StringBuilder();
        for (int k = 0; k < 16; k++) {
            text.append("addi x").append(k).append(",x0,").append(100 + k).append(';');
        }
        TimedThreads x = Check.started(1, thread, text.toString());
        x.run(68);
        return x;
    }

    /** Promise 14: "-1 when there is none." */
    private static void stateNone() {
        TimedThreads x = Twin.busy();
        for (int thread = 0; thread < 4; thread++) {
            for (int what : new int[] {-1, 8, 9, MIN, MAX}) {
                CHECK.due("state(" + thread + ", " + what + ")", x.state(thread, what), -1);
            }
            for (int what = 0; what < 8; what++) {
                CHECK.due("state(" + thread + ", " + what + ") is there", x.state(thread, what) >= 0, true);
            }
        }
        for (int thread : NO_THREADS) {
            for (int what = -1; what < 9; what++) {
                CHECK.due("state(" + thread + ", " + what + ")", x.state(thread, what), -1);
            }
        }
    }

    /** Promise 14: "0 it never ran"; Terms: "ADDRESS .. (at first 0)", "TIMERS .. 0 at first" */
    private static void stateNeverRan() {
        TimedThreads x = new TimedThreads(1);
        x.start(1, 40);
        x.part(2, 0, 64);
        x.poke(3, 0, 115);
        x.run(400);
        for (int thread : new int[] {0, 2, 3}) {
            for (int what = 0; what < 8; what++) {
                CHECK.due("state(" + thread + ", " + what + ")", x.state(thread, what), 0);
            }
        }
    }

    /** Promise 14: "1 it runs", "1 the address of its next instruction" */
    private static void stateRuns() {
        TimedThreads x = new TimedThreads(1);
        x.poke(2, 127, 19);
        x.start(2, 508);
        state(x, 2, 1, 508, 0, 0);
        x.run(2);
        state(x, 2, 1, 508, 0, 0);
        x.run(1);
        state(x, 2, 1, 512, 1, 6);
        x.run(3);
        state(x, 2, 1, 512, 1, 6);
    }

    /** Promise 14: "2 HALTED", "(.. behind halt)" */
    private static void stateHalted() {
        TimedThreads x = new TimedThreads(1);
        x.poke(1, 127, 115);
        x.start(1, 508);
        x.run(2);
        state(x, 1, 2, 512, 1, 5);
        x.run(100);
        state(x, 1, 2, 512, 1, 5);
    }

    /** Promise 14: "3 FAULT", "(of that with the FAULT ..)" */
    private static void stateFault() {
        TimedThreads x = new TimedThreads(1);
        x.poke(3, 126, 19);
        x.start(3, 504);
        x.run(4);
        state(x, 3, 1, 508, 1, 7);
        x.run(4);
        state(x, 3, 3, 508, 1, 7);
        x.run(100);
        state(x, 3, 3, 508, 1, 7);
        x.start(3, -6);
        state(x, 3, 1, -6, 1, 108);
        x.run(4);
        state(x, 3, 3, -6, 1, 108);
    }

    private static void state(TimedThreads x, int thread, int status, int address, int did, int ready) {
        int[] want = {status, address, did, ready};
        for (int what = 0; what < want.length; what++) {
            CHECK.due("state(" + thread + ", " + what + ") in " + x.now(), x.state(thread, what), want[what]);
        }
    }

    /** Promise 14: "2 how many instructions it did" (not those with a FAULT, nor dead that is to be tried again) */
    private static void stateCounts() {
        TimedThreads x = Check.started(1, 0, "dead 0,x0,9;dead 0,x0,0;jal x0,4;beq x0,x0,4;halt");
        int[] want = {1, 1, 1, 2, 3, 4, 5, 5};
        for (int turn = 0; turn < want.length; turn++) {
            x.run(4);
            CHECK.due("behind turn " + turn, x.state(0, 2), want[turn]);
        }
        x.start(0, 511);
        x.run(8);
        CHECK.due("behind a FAULT", x.state(0, 2), 5);
        x.start(0, 8);
        x.run(4);
        CHECK.due("behind another start", x.state(0, 2), 6);
    }

    /** Promise 14: "4 + k (0 .. 3) timer k" */
    private static void stateTimers() {
        for (int timer = 0; timer < 4; timer++) {
            TimedThreads x = Check.started(1, 2, "dead " + timer + ",x0,40");
            x.run(4);
            for (int k = 0; k < 4; k++) {
                CHECK.due("state(2, " + (4 + k) + ")", x.state(2, 4 + k), k == timer ? 42 : 0);
                CHECK.due("of another thread", x.state(1, 4 + k), 0);
            }
        }
    }

    /** Promise 15: "Of the k-th latest instruction that a thread did (0 the latest, up to 15)" */
    private static void traceUpTo15() {
        for (int did : new int[] {0, 1, 2, 15, 16, 17, 18, 31, 32, 33, 100}) {
            TimedThreads x = Check.started(1, 1, "word 19;".repeat(5) + "jal x0,-20");
            x.run(4 * did);
            for (int k = 0; k < 18; k++) {
                boolean is = k < did && k < 16;
                int turn = did - 1 - k;
                CHECK.due("address " + k + " of " + did, x.trace(1, k, 0), is ? 4 * (turn % 6) : -1);
                CHECK.due("cycle " + k + " of " + did, x.trace(1, k, 1), is ? 4 * turn + 1 : -1);
                CHECK.due("retires " + k + " of " + did, x.trace(1, k, 2), is ? 4 * turn + 5 : -1);
            }
        }
    }

    /** Promise 15: "-1 when there is none." */
    private static void traceNone() {
        TimedThreads x = new TimedThreads(1);
        for (int thread = 0; thread < 4; thread++) {
            x.poke(thread, 0, 111);
            x.start(thread, 0);
            CHECK.due("before any", x.trace(thread, 0, 0), -1);
        }
        x.run(400);
        for (int thread = 0; thread < 4; thread++) {
            for (int k : new int[] {-1, 16, 17, MIN, MAX}) {
                for (int what = 0; what < 3; what++) {
                    CHECK.due("trace(" + thread + ", " + k + ", " + what + ")", x.trace(thread, k, what), -1);
                }
            }
            for (int what : new int[] {-1, 3, 4, MIN, MAX}) {
                CHECK.due("trace(" + thread + ", 0, " + what + ")", x.trace(thread, 0, what), -1);
                CHECK.due("trace(" + thread + ", 15, " + what + ")", x.trace(thread, 15, what), -1);
            }
            CHECK.due("trace(" + thread + ", 15, 0)", x.trace(thread, 15, 0), 0);
        }
        for (int thread : NO_THREADS) {
            for (int what = 0; what < 3; what++) {
                CHECK.due("trace(" + thread + ", 0, " + what + ")", x.trace(thread, 0, what), -1);
            }
        }
    }

    /** Promise 15: "instruction that a thread did": halt too, but no FAULT and no dead that is to be tried again */
    private static void traceOfDone() {
        TimedThreads x = Check.started(1, 0, "dead 0,x0,9;dead 0,x0,0;word 0;halt");
        x.run(12);
        CHECK.due("dead that waits is none", x.trace(0, 0, 0), 0);
        CHECK.due("nor is it twice", x.trace(0, 1, 0), -1);
        x.run(1);
        CHECK.due("dead that is done", x.trace(0, 0, 0), 4);
        CHECK.due("in that cycle", x.trace(0, 0, 1), 12);
        x.run(20);
        CHECK.due("a FAULT is none", x.trace(0, 0, 0), 4);
        x.start(0, 12);
        CHECK.due("start leaves them", x.trace(0, 1, 2), 4);
        x.run(8);
        CHECK.due("halt is one", x.trace(0, 0, 0), 12);
        CHECK.due("done", x.trace(0, 0, 1), 36);
        CHECK.due("it retires", x.trace(0, 0, 2), 40);
        CHECK.due("behind those before", x.trace(0, 1, 0), 4);
    }
}
