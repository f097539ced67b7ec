import java.util.Set;

/**
 * The edges in 'Terms' that the threads stand on (registers, store, parts, fields, FAULT), a test for each such
 * sentence (it stands above the test).
 */
public final class MachineEdgesTest {
    private static final Check CHECK = new Check();
    private static final int MIN = Integer.MIN_VALUE;
    private static final int MAX = Integer.MAX_VALUE;
    private static final String[] ACCESSES = {"lw", "lb", "lbu", "sw", "sb"};

    public static void main(String[] args) {
        registersOf32Bits();
        x0IsAlways0();
        storeOf512Bytes();
        sumsGoRound();
        sharedOf256Bytes();
        partAtFirst();
        partFromLowToHigh();
        fieldI();
        fieldS();
        fieldB();
        fieldJ();
        fieldU();
        registersAbove15();
        timersAbove3();
        jalrLowestBit();
        bytesAndSigns();
        lessAtTheEnds();
        shiftsByFiveBits();
        haltIs115();
        otherWords();
        wordsAtMultiplesOf4();
        faultDoesNothing();
        faultStopsTheThread();
        jumpsToNoInstruction();
        branchesToNoInstruction();
        CHECK.end();
    }

    /** "REGISTERS x0 .. x15 (32 bits ..)" */
    private static void registersOf32Bits() {
        for (int k = 1; k < 16; k++) {
            for (int value : new int[] {MIN, MAX, -1, 0}) {
                CHECK.due("x" + k, behind("lw x" + k + ",400(x0)", value, 0).register(0, k), value);
            }
        }
        CHECK.due("above the highest", behind("addi x3,x1,1", MAX, 0).register(0, 3), MIN);
        CHECK.due("below the lowest", behind("addi x3,x1,-1", MIN, 0).register(0, 3), MAX);
        CHECK.due("a sum of the lowest", behind("add x3,x1,x2", MIN, MIN).register(0, 3), 0);
        CHECK.due("a difference", behind("sub x3,x1,x2", MIN, 1).register(0, 3), MAX);
        CHECK.due("0 less the lowest", behind("sub x3,x1,x2", 0, MIN).register(0, 3), MIN);
        CHECK.due("a shift loses the highest", behind("slli x3,x1,1", MIN, 0).register(0, 3), 0);
    }

    /** "x0 is always 0" */
    private static void x0IsAlways0() {
        String[] all = {"lui x0,9", "jal x0,4", "jalr x0,12(x0)", "lw x0,400(x0)", "lb x0,400(x0)", "lbu x0,400(x0)",
            "addi x0,x1,5", "slti x0,x0,5", "sltiu x0,x0,5", "xori x0,x1,5", "ori x0,x1,5", "andi x0,x1,5", "slli x0,x1,1",
            "srli x0,x1,1", "srai x0,x1,1", "add x0,x1,x1", "sll x0,x1,x2", "slt x0,x0,x1", "sltu x0,x0,x1", "xor x0,x1,x0",
            "srl x0,x1,x2", "or x0,x1,x1", "and x0,x1,x1", "sub x0,x1,x2", "sra x0,x1,x2", "cycle x0"};
        for (String line : all) {
            TimedThreads x = behind(line + ";addi x3,x0,0;sw x0,408(x0)", 77, 1);
            x.poke(0, 102, 5);
            x.run(8);
            CHECK.due(line + ": is done", x.state(0, 2), 5);
            CHECK.due(line + ": x0", x.register(0, 0), 0);
            CHECK.due(line + ": x0 is read", x.register(0, 3), 0);
            CHECK.due(line + ": x0 is put", x.peek(0, 102), 0);
        }
    }

    /** "a STORE of 128 words at byte addresses 0 .. 511" */
    private static void storeOf512Bytes() {
        for (String name : ACCESSES) {
            int size = name.endsWith("w") ? 4 : 1;
            reaches(name, 0, 0, 0, true);
            reaches(name, 512 - size, 0, 0, true);
            reaches(name, 512, 0, 0, false);
            reaches(name, -size, 0, 0, false);
            reaches(name, 4092, 0, 0, false);
            reaches(name, MIN, 0, 0, false);
            reaches(name, MAX - 3, 0, 0, false);
        }
        TimedThreads x = behind("sb x1,511(x0);lb x3,511(x0);sb x2,0(x0);lbu x4,0(x0)", 0x81, 0x92);
        x.run(12);
        CHECK.due("the last byte", x.peek(0, 127), 0x81000000);
        CHECK.due("is read", x.register(0, 3), -127);
        CHECK.due("the first byte", x.peek(0, 0) & 255, 0x92);
        CHECK.due("is read", x.register(0, 4), 0x92);
    }

    /** RS + I and RS + S in "(32 bits ..)": a sum that goes round is where it comes to. */
    private static void sumsGoRound() {
        CHECK.due("-4 + 404", behind("lw x3,404(x1)", -4, 0).register(0, 3), -4);
        CHECK.due("512 - 112", behind("lw x3,-112(x1)", 512, 0).register(0, 3), 512);
        CHECK.due("the highest + 1 is no address", behind("lbu x3,1(x1)", MAX, 0).state(0, 0), 3);
        CHECK.due("the lowest - 1 is none", behind("lbu x3,-1(x1)", MIN, 0).state(0, 0), 3);
        CHECK.due("a store at -2048 + 2047", behind("sb x2,2047(x1)", -2048, 5).state(0, 0), 3);
        CHECK.due("a store at -2047 + 2047", behind("sb x2,2047(x1)", -2047, 5).peek(0, 0) & 255, 5);
        CHECK.due("jalr over the highest", behind("jalr x3,2(x1)", MAX, 0).state(0, 1), MIN);
        CHECK.due("jalr below the lowest", behind("jalr x3,-2(x1)", MIN, 0).state(0, 1), MAX - 1);
        CHECK.due("jal below 0", behind("jal x3,-16", 0, 0).state(0, 1), -8);
    }

    /** "64 words at byte addresses 4096 .. 4351" */
    private static void sharedOf256Bytes() {
        for (String name : ACCESSES) {
            int size = name.endsWith("w") ? 4 : 1;
            reaches(name, 4096 - size, 0, 64, false);
            reaches(name, 4096, 0, 64, true);
            reaches(name, 4352 - size, 0, 64, true);
            reaches(name, 4352, 0, 64, false);
        }
        TimedThreads x = behind("sb x2,-1(x1);addi x1,x1,-256;sb x2,0(x1)", 4352, 0x77);
        x.part(0, 0, 64);
        x.start(0, 8);
        x.run(40);
        CHECK.due("the last byte", x.shared(63), 0x77000000);
        CHECK.due("the first byte", x.shared(0), 0x77);
    }

    /** "(at first LOW and HIGH are 0)" */
    private static void partAtFirst() {
        for (String name : ACCESSES) {
            for (int address : new int[] {4096, 4348}) {
                TimedThreads x = behind(name + " x2,0(x1)", address, 0);
                CHECK.due(name + " at " + address, x.state(0, 0), 3);
            }
        }
    }

    /** "a thread's PART are words LOW .. HIGH - 1 of it"; "neither in the store nor in the thread's part: a FAULT" */
    private static void partFromLowToHigh() {
        int[][] parts = {{0, 1}, {10, 20}, {63, 64}, {7, 7}, {0, 0}, {64, 64}};
        for (int[] part : parts) {
            int low = 4096 + 4 * part[0];
            int high = 4096 + 4 * part[1];
            boolean any = low < high;
            for (String name : ACCESSES) {
                int size = name.endsWith("w") ? 4 : 1;
                reaches(name, low - size, part[0], part[1], false);
                reaches(name, low, part[0], part[1], any);
                reaches(name, high - size, part[0], part[1], any);
                reaches(name, high, part[0], part[1], false);
            }
        }
    }

    private static void reaches(String name, int address, int low, int high, boolean want) {
        TimedThreads x = new TimedThreads(1);
        Check.assemble(x, "lw x1,400(x0);lw x2,404(x0);" + name + " x2,0(x1)", 3, 0);
        x.poke(3, 100, address);
        x.part(3, low, high);
        x.start(3, 0);
        String call = name + " at " + address + " with part " + low + " .. " + high;
        CHECK.due(call, x.run(12), want ? 3 : 2);
        CHECK.due(call + ": it runs", x.state(3, 0), want ? 1 : 3);
    }

    /** "Numbers with sign (their highest bit): I bits 20 .. 31" */
    private static void fieldI() {
        for (int bit = 20; bit < 32; bit++) {
            int want = bit == 31 ? -2048 : 1 << bit - 20;
            CHECK.due("I, bit " + bit, poked(19 | 3 << 7 | 1 << bit).register(0, 3), want);
        }
        CHECK.due("I, all bits", poked(19 | 3 << 7 | 0xfff00000).register(0, 3), -1);
        CHECK.due("I, all but the sign", poked(19 | 3 << 7 | 0x7ff00000).register(0, 3), 2047);
    }

    /** "S bits 7 .. 11 (the lowest) and 25 .. 31" */
    private static void fieldS() {
        for (int k = 0; k < 12; k++) {
            int bit = k < 5 ? 7 + k : 20 + k;
            storesAt(1 << bit, k == 11 ? -2048 : 1 << k);
        }
        storesAt(0xfe000f80, -1);
        storesAt(0x7e000f80, 2047);
    }

    /** sb of x2 with these bits of S: x1 is such that it comes to 300. */
    private static void storesAt(int bits, int number) {
        TimedThreads x = new TimedThreads(1);
        Check.assemble(x, "lw x1,400(x0);addi x2,x0,99", 0, 0);
        x.poke(0, 2, 35 | 1 << 15 | 2 << 20 | bits);
        x.poke(0, 100, 300 - number);
        x.start(0, 0);
        CHECK.due("S " + number, x.run(12), 3);
        CHECK.due("S " + number + " is put there", x.peek(0, 75), 99);
    }

    /** "B, from the lowest: a 0, bits 8 .. 11, 25 .. 30, 7, 31" */
    private static void fieldB() {
        int[] bits = {8, 9, 10, 11, 25, 26, 27, 28, 29, 30, 7, 31};
        for (int k = 0; k < bits.length; k++) {
            CHECK.due("B, bit " + bits[k], poked(99 | 1 << bits[k]).state(0, 1), 80 + (k == 11 ? -4096 : 2 << k));
        }
        CHECK.due("B, all bits", poked(99 | 0xfe000f80).state(0, 1), 78);
        CHECK.due("B, no bit", poked(99).state(0, 1), 80);
    }

    /** "J: a 0, bits 21 .. 30, 20, 12 .. 19, 31" */
    private static void fieldJ() {
        int[] bits = {21, 22, 23, 24, 25, 26, 27, 28, 29, 30, 20, 12, 13, 14, 15, 16, 17, 18, 19, 31};
        for (int k = 0; k < bits.length; k++) {
            CHECK.due("J, bit " + bits[k], poked(111 | 1 << bits[k]).state(0, 1), 80 + (k == 19 ? -1048576 : 2 << k));
        }
        CHECK.due("J, all bits", poked(111 | 0xfffff000).state(0, 1), 78);
        CHECK.due("J, no bit", poked(111).state(0, 1), 80);
    }

    /** "U: bits 12 .. 31, with twelve 0 behind them" */
    private static void fieldU() {
        for (int bit = 12; bit < 32; bit++) {
            CHECK.due("U, bit " + bit, poked(55 | 3 << 7 | 1 << bit).register(0, 3), 1 << bit);
        }
        CHECK.due("U, all bits", poked(55 | 3 << 7 | 0xfffff000).register(0, 3), -4096);
        CHECK.due("U, no bit", poked(55 | 3 << 7).register(0, 3), 0);
    }

    /** Thread 0 behind one turn at 80, where this word stands. */
    private static TimedThreads poked(int word) {
        TimedThreads x = new TimedThreads(1);
        x.poke(0, 20, word);
        x.start(0, 80);
        x.run(1);
        return x;
    }

    /** "Registers above 15 there are none"; "registers above 15 where they are looked at .. : a FAULT" */
    private static void registersAbove15() {
        looksAt("d", 55);
        looksAt("d", 111);
        looksAt("ds", 103);
        for (int f : new int[] {0, 1, 4, 5, 6, 7}) {
            looksAt("st", 99 | f << 12);
        }
        for (int f : new int[] {0, 2, 4}) {
            looksAt("ds", 3 | f << 12);
        }
        looksAt("st", 35);
        looksAt("st", 35 | 2 << 12);
        for (int f = 0; f < 8; f++) {
            looksAt("ds", 19 | f << 12);
            looksAt("dst", 51 | f << 12);
        }
        looksAt("ds", 19 | 5 << 12 | 32 << 25);
        looksAt("dst", 51 | 32 << 25);
        looksAt("dst", 51 | 5 << 12 | 32 << 25);
        looksAt("s", 11);
        looksAt("d", 11 | 1 << 12);
    }

    /** RD, RS, RT are 15 and then 16 and 31: a FAULT just where they are looked at. */
    private static void looksAt(String fields, int word) {
        boolean isTimer = word == 11;
        if (!isTimer) {
            takes("RD 15", word | 15 << 7, true);
            takes("RD 16", word | 16 << 7, fields.indexOf('d') < 0);
            takes("RD 31", word | 31 << 7, fields.indexOf('d') < 0);
        }
        takes("RS 15", word | 15 << 15, true);
        takes("RS 16", word | 16 << 15, fields.indexOf('s') < 0);
        takes("RS 31", word | 31 << 15, fields.indexOf('s') < 0);
        // In a load the bits of RT are of I: 16 is a word's address, 31 none.
        takes("RT 12", word | 12 << 20, true);
        takes("RT 16", word | 16 << 20, fields.indexOf('t') < 0);
        takes("RT 28", word | 28 << 20, fields.indexOf('t') < 0);
    }

    /** RD of a store is of S: only where that is a multiple of 4 does sw reach it. */
    private static void takes(String name, int word, boolean want) {
        boolean astray = (word & 127) == 35 && (word >> 12 & 7) == 2 && (word >> 7 & 3) != 0;
        TimedThreads x = poked(word);
        CHECK.due(name + " of " + Integer.toHexString(word), x.state(0, 2), want && !astray ? 1 : 0);
        CHECK.due(name + ": state", x.state(0, 0), want && !astray ? 1 : 3);
    }

    /** "dead ..; RD is a timer, 0 .. 3" */
    private static void timersAbove3() {
        for (int timer = 0; timer < 32; timer++) {
            TimedThreads x = poked(11 | timer << 7 | 5 << 20);
            CHECK.due("timer " + timer, x.state(0, 2), timer < 4 ? 1 : 0);
            CHECK.due("timer " + timer + ": state", x.state(0, 0), timer < 4 ? 1 : 3);
            for (int k = 0; k < 4; k++) {
                CHECK.due("timer " + timer + ": timer " + k, x.state(0, 4 + k), k == timer ? 5 : 0);
            }
        }
    }

    /** "goes to RS (as it was) + I, the lowest bit 0" */
    private static void jalrLowestBit() {
        CHECK.due("an odd sum", behind("jalr x3,1(x1)", 100, 0).state(0, 1), 100);
        CHECK.due("two odd ones", behind("jalr x3,1(x1)", 101, 0).state(0, 1), 102);
        CHECK.due("the bit above stays", behind("jalr x3,3(x1)", 100, 0).state(0, 1), 102);
        CHECK.due("below 0", behind("jalr x3,-1(x1)", 0, 0).state(0, 1), -2);
        TimedThreads x = behind("jalr x1,0(x1)", 200, 0);
        CHECK.due("RS as it was", x.state(0, 1), 200);
        CHECK.due("RD", x.register(0, 1), 12);
    }

    /** "lb (F 0, a byte with sign), lbu (F 4, without)"; "RT (its lowest byte) is put" */
    private static void bytesAndSigns() {
        int[][] bytes = {{0, 0, 0}, {127, 127, 127}, {128, -128, 128}, {255, -1, 255}};
        for (int[] b : bytes) {
            for (int place = 0; place < 4; place++) {
                int word = b[0] << 8 * place | 0x5a5a5a5a & ~(255 << 8 * place);
                int at = 400 + place;
                CHECK.due("lb " + b[0], behind("lb x3," + at + "(x0)", word, 0).register(0, 3), b[1]);
                CHECK.due("lbu " + b[0], behind("lbu x3," + at + "(x0)", word, 0).register(0, 3), b[2]);
                TimedThreads x = behind("sb x2," + at + "(x0)", 0x5a5a5a5a, 0xffffff00 | b[0]);
                CHECK.due("sb " + b[0], x.peek(0, 100), word);
            }
        }
    }

    /** "blt (4) less, bge (5) not less, bltu (6), bgeu (7) the same without sign"; slti, sltiu, slt, sltu */
    private static void lessAtTheEnds() {
        int[][] pairs = {{MIN, MAX, 1, 0}, {MAX, MIN, 0, 1}, {-1, 0, 1, 0}, {0, -1, 0, 1}, {0, 0, 0, 0}, {-1, -1, 0, 0},
            {MIN, MIN, 0, 0}, {0, 1, 1, 1}, {MIN, -1, 1, 1}, {MAX, -1, 0, 1}};
        for (int[] p : pairs) {
            CHECK.due("slt", behind("slt x3,x1,x2", p[0], p[1]).register(0, 3), p[2]);
            CHECK.due("sltu", behind("sltu x3,x1,x2", p[0], p[1]).register(0, 3), p[3]);
            CHECK.due("blt", behind("blt x1,x2,20", p[0], p[1]).state(0, 1), p[2] == 1 ? 28 : 12);
            CHECK.due("bge", behind("bge x1,x2,20", p[0], p[1]).state(0, 1), p[2] == 1 ? 12 : 28);
            CHECK.due("bltu", behind("bltu x1,x2,20", p[0], p[1]).state(0, 1), p[3] == 1 ? 28 : 12);
            CHECK.due("bgeu", behind("bgeu x1,x2,20", p[0], p[1]).state(0, 1), p[3] == 1 ? 12 : 28);
            CHECK.due("beq", behind("beq x1,x2,20", p[0], p[1]).state(0, 1), p[0] == p[1] ? 28 : 12);
            CHECK.due("bne", behind("bne x1,x2,20", p[0], p[1]).state(0, 1), p[0] == p[1] ? 12 : 28);
        }
        CHECK.due("slti -1 of -2", behind("slti x3,x1,-1", -2, 0).register(0, 3), 1);
        CHECK.due("slti -1 of -1", behind("slti x3,x1,-1", -1, 0).register(0, 3), 0);
        CHECK.due("slti -2048 of the lowest", behind("slti x3,x1,-2048", MIN, 0).register(0, 3), 1);
        CHECK.due("sltiu -1 of 0", behind("sltiu x3,x1,-1", 0, 0).register(0, 3), 1);
        CHECK.due("sltiu -1 of -1", behind("sltiu x3,x1,-1", -1, 0).register(0, 3), 0);
        CHECK.due("sltiu 0 of 0", behind("sltiu x3,x1,0", 0, 0).register(0, 3), 0);
        CHECK.due("sltiu 1 of 0", behind("sltiu x3,x1,1", 0, 0).register(0, 3), 1);
    }

    /** "by the number in RT's bits"; "shifts by the lowest five bits" */
    private static void shiftsByFiveBits() {
        int[][] counts = {{0, 0}, {1, 1}, {31, 31}, {32, 0}, {33, 1}, {63, 31}, {-1, 31}, {-32, 0}, {MIN, 0}, {MAX, 31}};
        for (int[] c : counts) {
            int n = c[1];
            CHECK.due("sll by " + c[0], behind("sll x3,x1,x2", 0x80000003, c[0]).register(0, 3), 0x80000003 << n);
            CHECK.due("srl by " + c[0], behind("srl x3,x1,x2", 0x80000003, c[0]).register(0, 3), 0x80000003 >>> n);
            CHECK.due("sra by " + c[0], behind("sra x3,x1,x2", 0x80000003, c[0]).register(0, 3), 0x80000003 >> n);
            CHECK.due("slli by " + n, behind("slli x3,x1," + n, 0x80000003, 0).register(0, 3), 0x80000003 << n);
            CHECK.due("srli by " + n, behind("srli x3,x1," + n, 0x80000003, 0).register(0, 3), 0x80000003 >>> n);
            CHECK.due("srai by " + n, behind("srai x3,x1," + n, 0x80000003, 0).register(0, 3), 0x80000003 >> n);
        }
    }

    /** "halt: the word 115" */
    private static void haltIs115() {
        CHECK.due("115", poked(115).state(0, 0), 2);
        for (int bit = 7; bit < 32; bit++) {
            CHECK.due("115 and bit " + bit, poked(115 | 1 << bit).state(0, 0), 3);
        }
    }

    /** "All others .. : a FAULT": at each known OP the F and G that are none, and each OP that is none. */
    private static void otherWords() {
        int[][] none = {{103, 1, 0}, {103, 7, 0}, {99, 2, 0}, {99, 3, 0}, {3, 1, 0}, {3, 3, 0}, {3, 5, 0}, {3, 6, 0}, {3, 7, 0},
            {35, 1, 0}, {35, 3, 0}, {35, 4, 0}, {35, 7, 0}, {19, 1, 1}, {19, 1, 32}, {19, 1, 64}, {19, 5, 1}, {19, 5, 31},
            {19, 5, 33}, {19, 5, 64}, {19, 5, 96}, {51, 0, 1}, {51, 0, 31}, {51, 0, 33}, {51, 0, 64}, {51, 1, 32}, {51, 2, 32},
            {51, 3, 32}, {51, 4, 32}, {51, 6, 32}, {51, 7, 32}, {51, 5, 16}, {51, 7, 127}, {11, 2, 0}, {11, 3, 0}, {11, 4, 0},
            {11, 7, 0}, {115, 1, 0}};
        for (int[] n : none) {
            CHECK.due("OP " + n[0] + ", F " + n[1] + ", G " + n[2], poked(n[0] | n[1] << 12 | n[2] << 25).state(0, 0), 3);
        }
        String known = " 3 11 19 35 51 55 99 103 111 115 ";
        for (int op = 0; op < 128; op++) {
            CHECK.due("OP " + op, poked(op).state(0, 2), known.contains(" " + op + " ") ? 1 : 0);
        }
    }

    /** "an instruction's address that is no multiple of 4 ..", "a word (byte) that is not at a multiple of 4 (lw, sw)" */
    private static void wordsAtMultiplesOf4() {
        for (String name : ACCESSES) {
            for (int rest = 0; rest < 4; rest++) {
                boolean want = rest == 0 || !name.endsWith("w");
                reaches(name, 300 + rest, 0, 0, want);
                reaches(name, 508 + rest, 0, 0, want);
                reaches(name, 4096 + rest, 0, 1, want);
                reaches(name, 4348 + rest, 63, 64, want);
            }
        }
        for (int rest = 0; rest < 4; rest++) {
            TimedThreads x = new TimedThreads(1);
            x.poke(0, 3, 19);
            x.poke(0, 4, 19);
            x.start(0, 12 + rest);
            CHECK.due("an instruction at 12 + " + rest, x.run(4), rest == 0 ? 1 : 0);
        }
    }

    /** "a FAULT; .. nothing of the instruction is done" */
    private static void faultDoesNothing() {
        int above = 16;
        int[] words = {0, -1, 55 | above << 7, 111 | above << 7 | 4 << 21, 103 | 3 << 7 | above << 15, 103 | above << 7 | 12 << 20,
            103 | 3 << 7 | 1 << 12, 99 | above << 15, 99 | 2 << 12 | 8 << 8, 3 | 2 << 12 | 3 << 7 | 1 << 20,
            3 | 3 << 7 | 0x80000000, 3 | 4 << 12 | above << 7, 3 | 2 << 12 | 3 << 7 | 2 << 15, 35 | 2 << 12 | 1 << 20 | 6 << 7,
            35 | 1 << 20 | 0x80000000, 35 | 2 << 12 | above << 20, 35 | 2 << 12 | 1 << 20 | 2 << 15,
            35 | 1 << 20 | 2 << 15 | 8 << 7, 19 | 3 << 7 | above << 15 | 7 << 20, 19 | above << 7 | 7 << 20,
            51 | 3 << 7 | 1 << 15 | above << 20, 51 | 3 << 7 | 1 << 15 | 1 << 25, 11 | 4 << 7 | 9 << 20,
            11 | 1 << 7 | above << 15 | 9 << 20, 11 | 1 << 12 | above << 7, 11 | 2 << 12 | 3 << 7, 115 | 1 << 7};
        for (int word : words) {
            Set<String> changed = Twin.changes(() -> ahead(word), x -> x.run(4));
            CHECK.same(Integer.toHexString(word) + " changes", changed, Set.of("now()", "state(0, 0)"));
            TimedThreads x = ahead(word);
            CHECK.due("none is done", x.run(4), 0);
            CHECK.due("a FAULT", x.state(0, 0), 3);
        }
    }

    /** Thread 0 ahead of this word at 8, with x1 = 1234567 and x2 right behind its part. */
    private static TimedThreads ahead(int word) {
        TimedThreads x = Check.started(1, 0, "lw x1,400(x0);lw x2,404(x0)");
        x.poke(0, 100, 1234567);
        x.poke(0, 101, 4096 + 8);
        x.poke(0, 2, word);
        x.part(0, 0, 2);
        x.run(8);
        return x;
    }

    /** "a FAULT; the thread stops" */
    private static void faultStopsTheThread() {
        TimedThreads x = ahead(0);
        x.poke(0, 3, 19);
        x.poke(1, 0, 111);
        x.start(1, 0);
        CHECK.due("the others go on", x.run(40), 10);
        CHECK.due("it did", x.state(0, 2), 2);
        x.poke(0, 2, 19);
        CHECK.due("though its word is mended", x.run(40), 10);
        CHECK.due("it did", x.state(0, 2), 2);
        CHECK.due("a FAULT", x.state(0, 0), 3);
        x.start(0, 8);
        CHECK.due("until it is started", x.run(8), 4);
    }

    /** "A jump .. that is taken to where no instruction can be is a FAULT of the next one." */
    private static void jumpsToNoInstruction() {
        int[] places = {-4, -2, 2, 6, 510, 512, 514, 4096};
        for (int place : places) {
            faultOfTheNext("jal x3," + (place - 8), 0, place, 12);
            faultOfTheNext("jalr x3,0(x1)", place, place, 12);
            faultOfTheNext("jalr x3,1(x1)", place, place, 12);
        }
        for (int place : new int[] {0, 508}) {
            TimedThreads x = behind("jal x3," + (place - 8), 0, 0);
            x.poke(0, 127, 115);
            CHECK.due("a jump to " + place, x.run(4), 1);
        }
    }

    /** "A .. branch that is taken to where no instruction can be is a FAULT of the next one." */
    private static void branchesToNoInstruction() {
        String[] taken = {"beq x0,x0,", "bne x1,x0,", "blt x0,x1,", "bge x1,x0,", "bltu x0,x1,", "bgeu x1,x0,"};
        String[] left = {"bne x0,x0,", "beq x1,x0,", "bge x0,x1,", "blt x1,x0,", "bgeu x0,x1,", "bltu x1,x0,"};
        for (int k = 0; k < taken.length; k++) {
            for (int place : new int[] {-4, 2, 510, 512, 4094}) {
                faultOfTheNext(taken[k] + (place - 8), 9, place, 0);
                TimedThreads x = behind(left[k] + (place - 8) + ";halt", 9, 0);
                CHECK.due(left[k] + ": one that is not taken", x.state(0, 1), 12);
                CHECK.due(left[k] + ": goes on", x.run(4), 1);
            }
            TimedThreads x = behind(taken[k] + "500", 9, 0);
            x.poke(0, 127, 115);
            CHECK.due(taken[k] + ": to 508", x.run(4), 1);
        }
    }

    private static void faultOfTheNext(String line, int x1, int place, int x3) {
        TimedThreads x = behind(line, x1, 0);
        CHECK.due(line + ": is done", x.state(0, 2), 3);
        CHECK.due(line + ": sets RD", x.register(0, 3), x3);
        CHECK.due(line + ": it runs", x.state(0, 0), 1);
        CHECK.due(line + ": from there", x.state(0, 1), place);
        CHECK.due(line + ": the next is not done", x.run(4), 0);
        CHECK.due(line + ": a FAULT", x.state(0, 0), 3);
        CHECK.due(line + ": there", x.state(0, 1), place);
        CHECK.due(line + ": it did", x.state(0, 2), 3);
        CHECK.due(line + ": READY", x.state(0, 3), 12);
    }

    /** Thread 0 behind three turns: x1 and x2 are loaded from 400 and 404, then a text of which one line is done. */
    private static TimedThreads behind(String text, int x1, int x2) {
        TimedThreads x = Check.started(1, 0, "lw x1,400(x0);lw x2,404(x0);" + text);
        x.poke(0, 100, x1);
        x.poke(0, 101, x2);
        x.run(12);
        return x;
    }
}
