/** Promises 10 (start), 11 (run), 12 (now), 14 (state) and 15 (trace), with TIME. */
public final class TimeTest {
    private static final Check CHECK = new Check();

    public static void main(String[] args) {
        turns();
        wheel();
        deadlines();
        deadlineSums();
        halting();
        starting();
        running();
        states();
        traces();
        CHECK.end();
    }

    private static void turns() {
        for (int thread = 0; thread < 4; thread++) {
            TimedThreads x = Check.started(1, thread, "cycle x1;cycle x2;cycle x3;halt");
            CHECK.due("ahead of the first turn", x.run(thread), 0);
            CHECK.due("the first turn", x.run(1), 1);
            CHECK.due("it is done at once", x.register(thread, 1), thread);
            CHECK.due("READY", x.state(thread, 3), thread + 4);
            CHECK.due("ahead of the second", x.run(3), 0);
            CHECK.due("the second", x.run(1), 1);
            x.run(50);
            CHECK.due("cycle", x.register(thread, 2), thread + 4);
            CHECK.due("cycle", x.register(thread, 3), thread + 8);
            CHECK.due("halt is done in", x.trace(thread, 0, 1), thread + 12);
            CHECK.due("halt retires", x.trace(thread, 0, 2), thread + 16);
        }
    }

    /** Shared loads in a row, for every wheel and thread, from several starts. */
    private static void wheel() {
        for (int w = 1; w <= 8; w++) {
            for (int thread = 0; thread < 4; thread++) {
                for (int late = 0; late < 12; late++) {
                    sharedLoads(w, thread, late);
                }
            }
        }
    }

    private static void sharedLoads(int w, int thread, int late) {
        TimedThreads x = new TimedThreads(w);
        Check.assemble(x, "lui x1,1;lw x2,0(x1);sw x2,4(x1);lbu x0,3(x1);sb x2,5(x1);lw x2,0(x0);halt", thread, 0);
        x.part(thread, 0, 2);
        x.run(late);
        x.start(thread, 0);
        x.run(300);
        int ready = late;
        for (int k = 0; k < 7; k++) {
            int c = ready;
            while (c % 4 != thread) {
                c++;
            }
            int retires = c + 4;
            if (k >= 1 && k <= 4) {
                int b = c;
                while (b % (4 * w) != w * thread) {
                    b++;
                }
                retires = b + w;
            }
            ready = retires;
            CHECK.due("address " + k, x.trace(thread, 6 - k, 0), 4 * k);
            CHECK.due("wheel " + w + ", done", x.trace(thread, 6 - k, 1), c);
            CHECK.due("wheel " + w + ", retires", x.trace(thread, 6 - k, 2), retires);
        }
        CHECK.due("READY", x.state(thread, 3), ready);
    }

    private static void deadlines() {
        TimedThreads x = Check.started(1, 1, "dead 2,x0,10;dead 2,x0,0;dead 3,x0,-5;dead 2,x0,9;halt");
        CHECK.due("the first is done", x.run(4), 1);
        CHECK.due("timer", x.state(1, 6), 11);
        CHECK.due("it is tried in 5 and 9", x.run(8), 0);
        CHECK.due("READY stays", x.state(1, 3), 5);
        CHECK.due("the address stays", x.state(1, 1), 4);
        CHECK.due("it runs", x.state(1, 0), 1);
        CHECK.due("done in 13", x.run(2), 1);
        CHECK.due("timer", x.state(1, 6), 13);
        CHECK.due("done", x.trace(1, 0, 1), 13);
        CHECK.due("retires", x.trace(1, 0, 2), 17);
        CHECK.due("next", x.run(4), 1);
        CHECK.due("no less than the cycle", x.state(1, 7), 17);
        CHECK.due("next", x.run(4), 1);
        CHECK.due("timer", x.state(1, 6), 30);
        CHECK.due("others stay", x.state(1, 4) + x.state(1, 5), 0);
        TimedThreads y = Check.started(1, 0, "dead 0,x0,8;dead 0,x0,0");
        y.run(8);
        CHECK.due("less than the timer", y.state(0, 2), 1);
        y.run(1);
        CHECK.due("not less", y.state(0, 2), 2);
        TimedThreads z = Check.started(1, 0, "dead 0,x0,100;dead 1,x0,1;dead 0,x0,5");
        z.run(40);
        CHECK.due("timers are apart", z.state(0, 2), 2);
        z.start(0, 4);
        CHECK.due("timers stay", z.state(0, 4), 100);
        z.run(56);
        CHECK.due("their waiting too", z.state(0, 2), 3);
        z.run(5);
        CHECK.due("until then", z.state(0, 2), 4);
        CHECK.due("timer", z.state(0, 4), 105);
    }

    private static void deadlineSums() {
        int[] values = {0, 1, -1, 2047, -2048, Integer.MAX_VALUE, Integer.MIN_VALUE, Integer.MAX_VALUE - 8,
            Integer.MAX_VALUE - 2050};
        int[] numbers = {0, 4, -4, 2047, -2048};
        for (int value : values) {
            for (int number : numbers) {
                TimedThreads x = Check.started(1, 2, "lw x1,400(x0);dead 1,x1," + number);
                x.poke(2, 100, value);
                x.run(8);
                long due = Math.min(Integer.MAX_VALUE, Math.max(6L, 6L + value + number));
                CHECK.due("dead " + value + " + " + number, x.state(2, 5), due);
            }
        }
    }

    private static void halting() {
        TimedThreads x = Check.started(1, 3, "halt;addi x1,x0,1");
        CHECK.due("halt counts", x.run(4), 1);
        CHECK.due("halted", x.state(3, 0), 2);
        CHECK.due("behind it", x.state(3, 1), 4);
        CHECK.due("READY", x.state(3, 3), 7);
        CHECK.due("it stops", x.run(100), 0);
        CHECK.due("nothing is done", x.register(3, 1), 0);
        x.start(3, 4);
        CHECK.due("started again", x.run(4), 1);
        CHECK.due("it is done", x.register(3, 1), 1);
    }

    private static void starting() {
        TimedThreads x = new TimedThreads(8);
        CHECK.due("start(-1)", x.start(-1, 0), false);
        CHECK.due("start(4)", x.start(4, 0), false);
        CHECK.due("start(MIN)", x.start(Integer.MIN_VALUE, 0), false);
        CHECK.due("no thread runs", x.state(0, 0) + x.state(1, 0) + x.state(2, 0) + x.state(3, 0), 0);
        int[] wrong = {-4, -1, 1, 2, 3, 510, 512, 4096, Integer.MAX_VALUE, Integer.MIN_VALUE};
        for (int address : wrong) {
            x.poke(2, 0, 115);
            CHECK.due("start", x.start(2, address), true);
            CHECK.due("it runs", x.state(2, 0), 1);
            CHECK.due("from there", x.state(2, 1), address);
            CHECK.due("READY from this cycle on", x.state(2, 3), x.now());
            CHECK.due("nothing is done", x.run(4), 0);
            CHECK.due("but a fault", x.state(2, 0), 3);
            CHECK.due("there", x.state(2, 1), address);
        }
        CHECK.due("it never did one", x.state(2, 2), 0);
        behindTheStore();
        duringAnAccess();
    }

    private static void behindTheStore() {
        TimedThreads x = new TimedThreads(1);
        x.poke(0, 127, 19);
        x.start(0, 508);
        CHECK.due("the last word", x.run(4), 1);
        CHECK.due("runs on", x.state(0, 0), 1);
        CHECK.due("behind the store", x.state(0, 1), 512);
        CHECK.due("no more", x.run(4), 0);
        CHECK.due("a fault", x.state(0, 0), 3);
        CHECK.due("READY stays", x.state(0, 3), 4);
    }

    private static void duringAnAccess() {
        TimedThreads x = Check.started(8, 3, "lui x1,1;lw x2,0(x1);cycle x3;halt");
        x.part(3, 0, 1);
        CHECK.due("two are done", x.run(8), 2);
        CHECK.due("READY far away", x.state(3, 3), 32);
        CHECK.due("none meanwhile", x.run(4), 0);
        x.start(3, 8);
        CHECK.due("READY from now on", x.state(3, 3), 12);
        CHECK.due("so it goes on", x.run(4), 1);
        CHECK.due("in 15", x.register(3, 3), 15);
        CHECK.due("what it did stays", x.state(3, 2), 3);
        CHECK.due("and its trace", x.trace(3, 1, 2), 32);
    }

    private static void running() {
        TimedThreads x = new TimedThreads(1);
        for (int thread = 0; thread < 4; thread++) {
            x.poke(thread, 0, 0x6f);
            x.start(thread, 0);
        }
        CHECK.due("run(0)", x.run(0), 0);
        CHECK.due("now", x.now(), 0);
        CHECK.due("run(-1)", x.run(-1), -1);
        CHECK.due("run(2001)", x.run(2001), -1);
        CHECK.due("run(MIN)", x.run(Integer.MIN_VALUE), -1);
        CHECK.due("run(MAX)", x.run(Integer.MAX_VALUE), -1);
        CHECK.due("now", x.now(), 0);
        CHECK.due("run(2000)", x.run(2000), 2000);
        CHECK.due("now", x.now(), 2000);
        CHECK.due("run(1)", x.run(1), 1);
        CHECK.due("now", x.now(), 2001);
        CHECK.due("thread 0 took it", x.state(0, 2), 501);
        CHECK.due("thread 1 did not", x.state(1, 2), 500);
        for (int k = 0; k < 400; k++) {
            x.run(2000);
        }
        CHECK.due("now", x.now(), 802001);
        CHECK.due("how many", x.state(3, 2), 200500);
    }

    private static void states() {
        TimedThreads x = Check.started(1, 1, "dead 0,x0,20;dead 1,x0,21;dead 2,x0,22;dead 3,x0,23;word 0");
        CHECK.due("others never ran", x.state(0, 0), 0);
        x.run(18);
        int[] want = {3, 16, 4, 17, 21, 26, 31, 36, -1};
        for (int what = 0; what < want.length; what++) {
            CHECK.due("state(1, " + what + ")", x.state(1, what), want[what]);
        }
        int[][] none = {{1, -1}, {1, 8}, {1, Integer.MIN_VALUE}, {1, Integer.MAX_VALUE}, {4, 0}, {-1, 0}, {4, 4}};
        for (int[] call : none) {
            CHECK.due("state of none", x.state(call[0], call[1]), -1);
        }
    }

    private static void traces() {
        TimedThreads x = Check.started(1, 2, "addi x1,x1,1;jal x0,-4");
        CHECK.due("none yet", x.trace(2, 0, 0), -1);
        x.run(12);
        CHECK.due("three", x.state(2, 2), 3);
        int[] addresses = {0, 4, 0, -1};
        for (int k = 0; k < 4; k++) {
            CHECK.due("address", x.trace(2, k, 0), addresses[k]);
            CHECK.due("cycle", x.trace(2, k, 1), k < 3 ? 10 - 4 * k : -1);
            CHECK.due("retires", x.trace(2, k, 2), k < 3 ? 14 - 4 * k : -1);
        }
        x.run(400);
        for (int k = 0; k < 16; k++) {
            CHECK.due("address", x.trace(2, k, 0), k % 2 == 0 ? 0 : 4);
            CHECK.due("cycle", x.trace(2, k, 1), 410 - 4 * k);
            CHECK.due("retires", x.trace(2, k, 2), 414 - 4 * k);
        }
        int[][] none = {{2, 16, 0}, {2, -1, 0}, {2, 0, 3}, {2, 0, -1}, {4, 0, 0}, {-1, 0, 0}, {1, 0, 0},
            {2, Integer.MIN_VALUE, 0}, {2, Integer.MAX_VALUE, 1}};
        for (int[] call : none) {
            CHECK.due("trace of none", x.trace(call[0], call[1], call[2]), -1);
        }
    }
}
