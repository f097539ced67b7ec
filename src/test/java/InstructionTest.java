/** What each instruction does (promises 11 and 13 stand on it), and which words are a FAULT. */
public final class InstructionTest {
    private static final Check CHECK = new Check();

    public static void main(String[] args) {
        withRegisters();
        withNumbers();
        upper();
        jumps();
        branches();
        x0();
        unknownWords();
        highRegisters();
        registerCall();
        CHECK.end();
    }

    private static void withRegisters() {
        int[] values = {0, 1, -1, 5, 31, 32, 33, -31, 0x7fffffff, 0x80000000, 0x12345678, -7};
        for (int a : values) {
            for (int b : values) {
                two("add", a, b, a + b);
                two("sub", a, b, a - b);
                two("sll", a, b, a << (b & 31));
                two("srl", a, b, a >>> (b & 31));
                two("sra", a, b, a >> (b & 31));
                two("slt", a, b, a < b ? 1 : 0);
                two("sltu", a, b, (a & 0xffffffffL) < (b & 0xffffffffL) ? 1 : 0);
                two("xor", a, b, a ^ b);
                two("or", a, b, a | b);
                two("and", a, b, a & b);
            }
        }
    }

    private static void two(String name, int a, int b, int want) {
        CHECK.due(name + " " + a + " " + b, result(name + " x3,x1,x2", a, b), want);
    }

    private static void withNumbers() {
        int[] values = {0, 1, -1, 2047, -2048, 0x7fffffff, 0x80000000, 0x12345678};
        int[] numbers = {0, 1, -1, 2047, -2048, 1365};
        for (int a : values) {
            for (int n : numbers) {
                one("addi", a, n, a + n);
                one("slti", a, n, a < n ? 1 : 0);
                one("sltiu", a, n, Integer.compareUnsigned(a, n) < 0 ? 1 : 0);
                one("xori", a, n, a ^ n);
                one("ori", a, n, a | n);
                one("andi", a, n, a & n);
            }
            for (int n = 0; n < 32; n++) {
                one("slli", a, n, a << n);
                one("srli", a, n, a >>> n);
                one("srai", a, n, a >> n);
            }
        }
    }

    private static void one(String name, int a, int n, int want) {
        CHECK.due(name + " " + a + " " + n, result(name + " x3,x1," + n, a, 0), want);
    }

    private static void upper() {
        CHECK.due("lui 0", result("lui x3,0", 0, 0), 0);
        CHECK.due("lui 1", result("lui x3,1", 0, 0), 4096);
        CHECK.due("lui 1048575", result("lui x3,1048575", 0, 0), -4096);
        CHECK.due("lui 524288", result("lui x3,524288", 0, 0), Integer.MIN_VALUE);
    }

    /** x3 behind an instruction that stands at 8, with x1 and x2 set. */
    private static int result(String instruction, int a, int b) {
        return after(instruction, a, b).register(0, 3);
    }

    /** A thread that did three instructions: x1 and x2 are loaded from the store, then this one at 8. */
    private static TimedThreads after(String instruction, int a, int b) {
        TimedThreads x = Check.started(1, 0, "lw x1,400(x0);lw x2,404(x0);" + instruction);
        x.poke(0, 100, a);
        x.poke(0, 101, b);
        x.run(12);
        return x;
    }

    private static void jumps() {
        goes("jal x3,8", 0, 16, 12);
        goes("jal x3,-8", 0, 0, 12);
        goes("jal x3,2", 0, 10, 12);
        goes("jal x3,-1048576", 0, 8 - 1048576, 12);
        goes("jal x3,1048574", 0, 8 + 1048574, 12);
        goes("jal x3,0", 0, 8, 12);
        goes("jalr x3,4(x1)", 100, 104, 12);
        goes("jalr x3,5(x1)", 100, 104, 12);
        goes("jalr x3,-1(x1)", 100, 98, 12);
        goes("jalr x3,1(x1)", 0x7fffffff, Integer.MIN_VALUE, 12);
        goes("jalr x3,-2048(x0)", 0, -2048, 12);
        TimedThreads x = after("jalr x1,16(x1)", 40, 0);
        CHECK.due("jalr goes to RS as it was", x.state(0, 1), 56);
        CHECK.due("and sets it", x.register(0, 1), 12);
        TimedThreads y = after("jal x3,2", 0, 0);
        CHECK.due("a jump to no instruction is done", y.state(0, 2), 3);
        CHECK.due("and the thread runs", y.state(0, 0), 1);
        CHECK.due("the next one is not", y.run(8), 0);
        CHECK.due("but a fault", y.state(0, 0), 3);
        CHECK.due("there", y.state(0, 1), 10);
    }

    private static void goes(String instruction, int a, int to, int link) {
        TimedThreads x = after(instruction, a, 0);
        CHECK.due(instruction + " goes to", x.state(0, 1), to);
        CHECK.due(instruction + " sets RD", x.register(0, 3), link);
        CHECK.due(instruction + " is done", x.state(0, 2), 3);
    }

    private static void branches() {
        int[] values = {0, 1, -1, 0x7fffffff, 0x80000000};
        for (int a : values) {
            for (int b : values) {
                branch("beq", a, b, a == b);
                branch("bne", a, b, a != b);
                branch("blt", a, b, a < b);
                branch("bge", a, b, a >= b);
                branch("bltu", a, b, Integer.compareUnsigned(a, b) < 0);
                branch("bgeu", a, b, Integer.compareUnsigned(a, b) >= 0);
            }
        }
        CHECK.due("a branch not taken to no instruction", after("bne x0,x0,3998", 0, 0).state(0, 1), 12);
        CHECK.due("one taken", after("beq x0,x0,3998", 0, 0).state(0, 1), 4006);
    }

    private static void branch(String name, int a, int b, boolean taken) {
        int[] distances = {-4096, -8, -2, 0, 2, 30, 32, 2046, 2048, 4094};
        int distance = distances[Math.floorMod(a * 3 + b + name.length(), distances.length)];
        TimedThreads x = after(name + " x1,x2," + distance, a, b);
        CHECK.due(name + " " + a + " " + b, x.state(0, 1), taken ? 8 + distance : 12);
    }

    private static void x0() {
        String[] all = {"addi x0,x1,5", "add x0,x1,x1", "lui x0,5", "jal x0,4", "jalr x0,12(x0)", "lw x0,400(x0)",
            "lb x0,400(x0)", "lbu x0,400(x0)", "cycle x0", "srai x0,x1,1", "sub x0,x2,x1"};
        for (String line : all) {
            TimedThreads x = after(line, 77, 1);
            CHECK.due(line, x.register(0, 0), 0);
            CHECK.due(line + " goes on", x.state(0, 1), 12);
        }
    }

    /** Every OP, F and G with registers 1, 2, 3: done or a FAULT. */
    private static void unknownWords() {
        for (int op = 0; op < 128; op++) {
            for (int f = 0; f < 8; f++) {
                for (int g = 0; g < 128; g++) {
                    int word = op | 1 << 7 | f << 12 | 2 << 15 | 3 << 20 | g << 25;
                    boolean memory = op == 3 || op == 35;
                    boolean inStore = g < 16;
                    if (!memory || inStore) {
                        fate(word, isKnown(op, f, g) && !(memory && f == 2));
                    }
                }
            }
        }
        fate(115, true);
        fate(115 | 1 << 7, false);
        fate(115 | 1 << 20, false);
        fate(0, false);
        fate(-1, false);
        fate(0x00002003, true);
        fate(0x00002023, true);
    }

    private static boolean isKnown(int op, int f, int g) {
        switch (op) {
            case 55:
            case 111:
                return true;
            case 103:
                return f == 0;
            case 99:
                return f != 2 && f != 3;
            case 3:
                return f == 0 || f == 2 || f == 4;
            case 35:
                return f == 0 || f == 2;
            case 19:
                return f == 1 ? g == 0 : f != 5 || g == 0 || g == 32;
            case 51:
                return g == 0 || g == 32 && (f == 0 || f == 5);
            case 11:
                return f == 0 || f == 1;
            default:
                return false;
        }
    }

    private static void fate(int word, boolean done) {
        TimedThreads x = new TimedThreads(1);
        x.poke(3, 20, word);
        x.start(3, 80);
        CHECK.due(Integer.toHexString(word) + " done", x.run(4), done ? 1 : 0);
        CHECK.due(Integer.toHexString(word) + " state", x.state(3, 0), done ? word == 115 ? 2 : 1 : 3);
        if (!done) {
            CHECK.due("address of the fault", x.state(3, 1), 80);
            CHECK.due("READY stays", x.state(3, 3), 0);
            CHECK.due("nothing was done", x.state(3, 2), 0);
            CHECK.due("no trace", x.trace(3, 0, 0), -1);
            CHECK.due("RD is not set", x.register(3, 1), 0);
        }
    }

    private static void highRegisters() {
        int rd = 16 << 7;
        int rs = 16 << 15;
        int rt = 16 << 20;
        looksAt("lui", 55, 0, true, false, false);
        looksAt("jal", 111, 0, true, false, false);
        looksAt("jalr", 103, 0, true, true, false);
        looksAt("beq", 99, 0, false, true, true);
        looksAt("bgeu", 99, 7, false, true, true);
        looksAt("lw", 3, 2, true, true, false);
        looksAt("lb", 3, 0, true, true, false);
        looksAt("lbu", 3, 4, true, true, false);
        looksAt("sw", 35, 2, false, true, true);
        looksAt("sb", 35, 0, false, true, true);
        looksAt("addi", 19, 0, true, true, false);
        looksAt("slli", 19, 1, true, true, false);
        looksAt("srli", 19, 5, true, true, false);
        looksAt("add", 51, 0, true, true, true);
        looksAt("dead", 11, 0, true, true, false);
        looksAt("cycle", 11, 1, true, false, false);
        fate(11 | 1 << 12 | 31 << 15 | -1 << 20, true);
        fate(19 | 5 << 12 | 31 << 20 | 32 << 25, true);
        for (int timer = 0; timer < 32; timer++) {
            fate(11 | timer << 7, timer < 4);
        }
        fate(51 | 15 << 7 | 15 << 15 | 15 << 20, true);
        fate(51 | rd, false);
        fate(51 | rs, false);
        fate(51 | rt, false);
    }

    private static void looksAt(String name, int op, int f, boolean rd, boolean rs, boolean rt) {
        int word = op | f << 12;
        for (int high = 16; high < 32; high += 4) {
            fate(word | high << 7, !rd);
            fate(word | high << 15, !rs);
            fate(word | high << 20, !rt);
        }
        CHECK.due(name + " itself", rd || rs || rt, true);
        fate(word, true);
    }

    private static void registerCall() {
        StringBuilder text = new StringBuilder();
        for (int k = 0; k < 16; k++) {
            text.append("addi x").append(k).append(",x0,").append(100 + k).append(';');
        }
        TimedThreads x = Check.started(1, 2, text.toString());
        x.run(70);
        for (int k = 0; k < 16; k++) {
            CHECK.due("register " + k, x.register(2, k), k == 0 ? 0 : 100 + k);
            CHECK.due("another thread's", x.register(1, k), 0);
        }
        int[][] none = {{2, 16}, {2, -1}, {4, 1}, {-1, 1}, {2, Integer.MIN_VALUE}, {Integer.MAX_VALUE, 1}};
        for (int[] call : none) {
            CHECK.due("register of none", x.register(call[0], call[1]), 0);
        }
        x.start(2, 64);
        CHECK.due("start leaves registers", x.register(2, 15), 115);
    }
}
