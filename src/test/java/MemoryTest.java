/** Promises 6 (peek), 7 (poke), 8 (shared) and 9 (part), with loads and stores. */
public final class MemoryTest {
    private static final Check CHECK = new Check();

    public static void main(String[] args) {
        stores();
        sharedWords();
        partBounds();
        bytes();
        words();
        stopsOutside();
        CHECK.end();
    }

    private static void stores() {
        for (int thread = 0; thread < 4; thread++) {
            TimedThreads x = new TimedThreads(1);
            for (int word = 0; word < 128; word++) {
                CHECK.due("poke", x.poke(thread, word, 1000 * thread - word), true);
            }
            for (int word = 0; word < 128; word++) {
                CHECK.due("peek", x.peek(thread, word), 1000 * thread - word);
                CHECK.due("another thread's", x.peek((thread + 1) % 4, word), 0);
            }
        }
    }

    private static void sharedWords() {
        TimedThreads x = Check.started(1, 0, "lui x1,1;addi x2,x0,-7;sw x2,0(x1);addi x2,x2,1;sw x2,252(x1);halt");
        x.part(0, 0, 64);
        x.run(40);
        CHECK.due("shared(0)", x.shared(0), -7);
        CHECK.due("shared(63)", x.shared(63), -6);
        CHECK.due("shared(1)", x.shared(1), 0);
        CHECK.due("shared(-1)", x.shared(-1), 0);
        CHECK.due("shared(64)", x.shared(64), 0);
        CHECK.due("shared(MIN)", x.shared(Integer.MIN_VALUE), 0);
        Check.assemble(x, "lui x1,1;lw x3,0(x1);lw x4,252(x1);halt", 3, 0);
        x.part(3, 0, 64);
        x.start(3, 0);
        x.run(40);
        CHECK.due("another thread's load", x.register(3, 3), -7);
        CHECK.due("another thread's load", x.register(3, 4), -6);
    }

    private static void partBounds() {
        TimedThreads x = new TimedThreads(1);
        int[][] right = {{0, 0, 0}, {1, 0, 64}, {2, 64, 64}, {3, 5, 5}, {0, 63, 64}};
        for (int[] p : right) {
            CHECK.due("part", x.part(p[0], p[1], p[2]), true);
        }
        int[][] wrong = {{-1, 0, 1}, {4, 0, 1}, {0, -1, 1}, {0, 2, 1}, {0, 0, 65}, {0, 65, 65}, {0, 0, -1}, {0, -2, -1},
            {0, Integer.MIN_VALUE, 3}, {0, 0, Integer.MAX_VALUE}};
        for (int[] p : wrong) {
            CHECK.due("part", x.part(p[0], p[1], p[2]), false);
        }
        for (int word = 0; word < 64; word++) {
            boolean in = word >= 10 && word < 20;
            CHECK.due("word " + word + " of part 10 .. 19", reaches("lw x2," + 4 * word + "(x1)"), in);
            CHECK.due("byte of word " + word, reaches("lbu x2," + (4 * word + 3) + "(x1)"), in);
            CHECK.due("store to word " + word, reaches("sw x2," + 4 * word + "(x1)"), in);
            CHECK.due("byte stored to word " + word, reaches("sb x2," + 4 * word + "(x1)"), in);
        }
        CHECK.due("ahead of the shared memory", reaches("lbu x2,-1(x1)"), false);
        CHECK.due("behind it", reaches("lbu x2,256(x1)"), false);
    }

    /** Whether an instruction with x1 = 4096 is done by a thread with the part 10 .. 19; a refused part changes nothing. */
    private static boolean reaches(String instruction) {
        TimedThreads x = Check.started(1, 2, "lui x1,1;" + instruction);
        x.part(2, 10, 20);
        x.part(2, 0, 65);
        x.part(2, 21, 20);
        x.part(1, 0, 64);
        x.run(12);
        return x.state(2, 2) == 2;
    }

    private static void bytes() {
        TimedThreads x = Check.started(1, 1, "lw x1,400(x0);lb x2,400(x0);lbu x3,401(x0);lb x4,402(x0);lb x5,403(x0);"
            + "lbu x6,403(x0);sb x1,405(x0);sb x6,408(x0);sb x6,411(x0);halt");
        x.poke(1, 100, 0x80ff7f81);
        x.poke(1, 101, 0x11223344);
        x.run(48);
        CHECK.due("lw", x.register(1, 1), 0x80ff7f81);
        CHECK.due("lb with sign", x.register(1, 2), -127);
        CHECK.due("lbu", x.register(1, 3), 0x7f);
        CHECK.due("lb", x.register(1, 4), -1);
        CHECK.due("lb", x.register(1, 5), -128);
        CHECK.due("lbu without sign", x.register(1, 6), 128);
        CHECK.due("sb puts the lowest byte alone", x.peek(1, 101), 0x11228144);
        CHECK.due("sb at both ends", x.peek(1, 102), 0x80000080);
        TimedThreads y = Check.started(2, 0, "lui x1,1;addi x2,x0,-2;sb x2,7(x1);lb x3,7(x1);lbu x4,7(x1);lw x5,4(x1);halt");
        y.part(0, 1, 2);
        y.run(200);
        CHECK.due("a shared byte", y.shared(1), 0xfe000000);
        CHECK.due("lb of it", y.register(0, 3), -2);
        CHECK.due("lbu of it", y.register(0, 4), 254);
        CHECK.due("lw of it", y.register(0, 5), 0xfe000000);
    }

    private static void words() {
        TimedThreads x = Check.started(1, 0, "lw x1,508(x0);sw x1,504(x0);lw x0,508(x0);addi x2,x0,512;lw x3,-4(x2);"
            + "sw x0,-4(x2);halt");
        x.poke(0, 127, 123456789);
        x.run(60);
        CHECK.due("lw of the last word", x.register(0, 1), 123456789);
        CHECK.due("sw", x.peek(0, 126), 123456789);
        CHECK.due("x0 stays 0", x.register(0, 0), 0);
        CHECK.due("with a number below 0", x.register(0, 3), 123456789);
        CHECK.due("sw x0", x.peek(0, 127), 0);
        TimedThreads y = Check.started(1, 0, "lw x1,16(x0);sw x1,8(x0);halt;halt;addi x5,x0,9");
        y.run(60);
        CHECK.due("a thread may write its own program", y.register(0, 5), 9);
    }

    private static void stopsOutside() {
        String[] wrong = {"lw x1,1(x0)", "lw x1,2(x0)", "lw x1,3(x0)", "sw x1,2(x0)", "lw x1,512(x0)", "lb x1,512(x0)",
            "lbu x1,-1(x0)", "lw x1,-4(x0)", "sw x1,512(x0)", "sb x1,512(x0)", "sb x1,-1(x0)", "sw x1,-4(x0)"};
        for (String line : wrong) {
            TimedThreads x = Check.started(1, 0, line);
            CHECK.due(line, x.run(8), 0);
            CHECK.due(line + " state", x.state(0, 0), 3);
        }
        TimedThreads x = Check.started(1, 0, "lui x1,1;lw x2,2(x1)");
        x.part(0, 0, 64);
        CHECK.due("a shared word at no multiple of 4", x.run(12), 1);
        CHECK.due("is a fault", x.state(0, 0), 3);
    }
}
