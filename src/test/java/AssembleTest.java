/** Promises 4 (assemble) and 5 (fault), with THE TEXT and TO ASSEMBLE. */
public final class AssembleTest {
    private static final Check CHECK = new Check();

    public static void main(String[] args) {
        encodings();
        numbers();
        targets();
        blanks();
        malformed();
        misfits();
        labels();
        tooMany();
        order();
        calls();
        CHECK.end();
    }

    private static void encodings() {
        word("lui x1,0", 0x000000b7);
        word("lui x15,1048575", 0xfffff7b7);
        word("jal x1,8", 0x008000ef);
        word("jal x0,-1048576", 0x8000006f);
        word("jal x0,1048574", 0x7ffff06f);
        word("jal x0,2048", 0x0010006f);
        word("jalr x1,-4(x2)", 0xffc100e7);
        word("beq x1,x2,8", 0x00208463);
        word("bne x1,x2,-2", 0xfe209fe3);
        word("blt x3,x4,4094", 0x7e41cfe3);
        word("bge x3,x4,-4096", 0x8041d063);
        word("bltu x3,x4,2048", 0x0041e0e3);
        word("bgeu x15,x14,0", 0x00e7f063);
        word("lw x5,2047(x6)", 0x7ff32283);
        word("lb x5,-2048(x6)", 0x80030283);
        word("lbu x5,0(x6)", 0x00034283);
        word("sw x5,-1(x6)", 0xfe532fa3);
        word("sb x5,37(x6)", 0x025302a3);
        word("addi x1,x2,-1", 0xfff10093);
        word("slti x1,x2,3", 0x00312093);
        word("sltiu x1,x2,3", 0x00313093);
        word("xori x1,x2,3", 0x00314093);
        word("ori x1,x2,3", 0x00316093);
        word("andi x1,x2,3", 0x00317093);
        word("slli x1,x2,31", 0x01f11093);
        word("srli x1,x2,1", 0x00115093);
        word("srai x1,x2,1", 0x40115093);
        word("add x1,x2,x3", 0x003100b3);
        word("sll x1,x2,x3", 0x003110b3);
        word("slt x1,x2,x3", 0x003120b3);
        word("sltu x1,x2,x3", 0x003130b3);
        word("xor x1,x2,x3", 0x003140b3);
        word("srl x1,x2,x3", 0x003150b3);
        word("or x1,x2,x3", 0x003160b3);
        word("and x1,x2,x3", 0x003170b3);
        word("sub x1,x2,x3", 0x403100b3);
        word("sra x1,x2,x3", 0x403150b3);
        word("dead 3,x2,-1", 0xfff1018b);
        word("cycle x7", 0x0000138b);
        word("halt", 115);
    }

    private static void numbers() {
        word("word 0", 0);
        word("word -0", 0);
        word("word 4294967295", -1);
        word("word 2147483648", Integer.MIN_VALUE);
        word("word -2147483648", Integer.MIN_VALUE);
        word("word 0000000012", 12);
        word("word5", 5);
        word("word-5", -5);
        word("addi x01,x00,07", 0x00700093);
        word("dead0,x1,2", 0x0020800b);
        word("dead -0,x1,2", 0x0020800b);
    }

    private static void targets() {
        TimedThreads x = new TimedThreads(1);
        CHECK.due("words", Check.assemble(x, "a: jal x0,b;beq x0,x0,a\nb:bne x1,x0,b;jal x1,a;c:jal x0,c;blt x0,x1,d;d:",
            2, 100), 6);
        int[] want = {0x0080006f, 0xfe000ee3, 0x00009063, 0xff5ff0ef, 0x0000006f, 0x00104263};
        for (int k = 0; k < want.length; k++) {
            CHECK.due("target " + k, x.peek(2, 100 + k), want[k]);
        }
        word("add: jal x0,add", 0x6f);
        word("x: jal x0,x", 0x6f);
        word("abcdefgh: jal x0,abcdefgh", 0x6f);
        word("jal x0,z\nz:", 0x0040006f);
        CHECK.due("a label behind the store", Check.assemble(x, "jal x0,z;z:", 3, 127), 1);
        CHECK.due("its distance", x.peek(3, 127), 0x0040006f);
    }

    private static void blanks() {
        word("  a  :  addi   x1 , x0 ,  5  ", 0x00500093);
        word("a:addi x1,x0,5", 0x00500093);
        word(" lw x5 , -4 ( x6 ) ", 0xffc32283);
        word(" ; \n;;halt\n\n", 115);
        fault("", 0);
        fault("  \n ; ;", 0);
        fault("a:\n b :", 0);
    }

    private static void malformed() {
        String[] wrong = {
            "nop", "ADD x1,x2,x3", "addx1,x2,x3", "add", "add x1", "add x1,x2", "add x1,x2,x3,", "add x1,x2,x3,x4",
            "add x1 x2 x3", "add,x1,x2,x3", "add x1,,x3", "add x1,x2,3", "add x16,x1,x1", "add x1,x99,x1",
            "add x1,x2,x100", "add x1,x2,x001", "add x1,x2,x", "add x 1,x2,x3", "add xx1,x2,x3", "add X1,x2,x3",
            "add y1,x2,x3", "add x-1,x2,x3", "addi x1,x2,x3", "addi x1,x2,- 3", "addi x1,x2,--3", "addi x1,x2,+3",
            "addi x1,x2,-", "addi x1,x2,3a", "addi x1,x2,a", "addi x1,x2,0x3", "addi x1,x2,3 4", "addi x1,x2,3-4",
            "lw x1,(x2)", "lw x1,4", "lw x1,4(x2", "lw x1,4 x2)", "lw x1,x2", "lw x1,4(2)", "lw x1,4(x2)x", "sw 4(x2),x1",
            "jalr x1,x2,4", "jalr x1", "beq x1,x2", "beq x1,a,x2", "beq x1,x2,x3", "beq x1,x2,a b", "beq x1,x2,a1",
            "beq x1,x2,abcdefghi", "beq x1,x2,-a", "jal a", "jal x1", "jal x1,", "lui x1", "lui x1,a", "dead x1,x2,3",
            "dead 1,2,3", "dead 1,x2", "cycle", "cycle 4", "cycle x1,x2", "cyclex1", "halt x1", "halt 0", "halt halt",
            "halt,", "word", "word x1", "word a", "word 1,2", "word 1 2", ":", ": halt", "abcdefghi:", "a1:", "1:", "x1:",
            "A:", "a b: halt", "a:b: halt", "a:b:", "a:: halt", "a, halt", "5", "x1", "-", "(", "a", "halt:x", "halt!", "# halt",
            "addi x1,x2,3.", "word 1_0", "ori x1,x2,'", "\"", "halt.", "slliw x1,x2,3", "lh x1,0(x2)", "abcdefghi",
            "sltiuu x1,x2,3", "wor 1", "words 1"};
        for (String line : wrong) {
            fault(line, 1000);
            fault("halt;\n" + line + "\nhalt", 1002);
        }
    }

    private static void misfits() {
        String[] wrong = {
            "addi x1,x2,2048", "addi x1,x2,-2049", "slti x1,x2,2048", "sltiu x1,x2,4095", "xori x1,x2,-2049",
            "ori x1,x2,2048", "andi x1,x2,2048", "slli x1,x2,32", "srli x1,x2,-1", "srai x1,x2,32", "lw x1,2048(x2)",
            "lb x1,-2049(x2)", "lbu x1,2048(x2)", "jalr x1,2048(x2)", "sw x1,2048(x2)", "sb x1,-2049(x2)",
            "beq x1,x2,4096", "bne x1,x2,-4098", "blt x1,x2,1", "bge x1,x2,-3", "bltu x1,x2,4095", "bgeu x1,x2,-4097",
            "jal x1,1048576", "jal x1,-1048578", "jal x1,3", "lui x1,1048576", "lui x1,-1", "dead 4,x1,0", "dead -1,x1,0",
            "dead 0,x1,2048", "dead 0,x1,-2049", "word 4294967296", "word -2147483649", "word 9999999999",
            "word 00000000001", "word -00000000000", "addi x1,x2,00000000001", "jal x0,00000000000",
            "beq x0,x0,00000000004", "word 18446744073709551617", "dead 00000000000,x1,1",
            "word 99999999999999999999999999999999999999999999"};
        for (String line : wrong) {
            fault(line, 2000);
            fault("halt\nword 1;" + line, 2002);
        }
    }

    private static void labels() {
        fault("a:;a:", 3001);
        fault("a:;b:;halt\na: halt", 3003);
        fault("jal x0,a", 3000);
        fault("halt;beq x0,x0,b;jal x0,a", 3001);
        fault("ab:;jal x0,a", 3001);
        fault("a:;jal x0,ab", 3001);
        fault("a:;jal x0,aa", 3001);
        fault("ab:;ba:;jal x0,ab", 0);
        fault("abcdefgh:;abcdefgi:;jal x0,abcdefgh", 0);
    }

    private static void tooMany() {
        String sixteen = "a:;b:;c:;d:;e:;f:;g:;h:;i:;j:;k:;l:;m:;n:;o:;p:;";
        fault(sixteen + "halt", 0);
        fault(sixteen + "q:", 4016);
        fault(sixteen + "a:", 4016);
        CHECK.due("two words at 126", faultAt("halt;halt", 126), 0);
        CHECK.due("three words at 126", faultAt("halt;halt;;halt", 126), 4003);
        CHECK.due("a label behind the last", faultAt("halt;a:", 127), 0);
        CHECK.due("a word behind the last", faultAt("halt;a:;halt", 127), 4002);
        StringBuilder many = new StringBuilder();
        for (int k = 0; k < 80; k++) {
            many.append("halt\n");
        }
        CHECK.due("80 words at 48", faultAt(many.toString(), 48), 0);
        CHECK.due("80 words at 49", faultAt(many.toString(), 49), 4079);
        StringBuilder empty = new StringBuilder();
        for (int k = 0; k < 200; k++) {
            empty.append(";\n");
        }
        fault(empty.toString(), 0);
        fault(empty.substring(0, 399) + "?", 1399);
    }

    private static void order() {
        String sixteen = "a:;b:;c:;d:;e:;f:;g:;h:;i:;j:;k:;l:;m:;n:;o:;p:;";
        fault("addi x1,x2,2048 x", 1000);
        fault("addi x1,x2,99999999999,", 1000);
        fault("word 4294967296;nop", 2000);
        fault("nop;word 4294967296", 1000);
        fault("a:;a: word 4294967296", 2001);
        fault("a:;a: nop", 1001);
        fault(sixteen + "a: word 4294967296", 2016);
        fault(sixteen + "q: nop", 1016);
        CHECK.due("4 before 3", faultAt("a:halt;a:halt", 127), 4001);
        CHECK.due("2 before 4", faultAt("halt;word 4294967296", 127), 2001);
        CHECK.due("1 before 4", faultAt("halt;word", 127), 1001);
        fault("jal x0,none;nop", 1001);
        fault("jal x0,none;word 4294967296", 2001);
        fault("jal x0,none;a:;a:", 3002);
        fault("jal x0,none;halt;jal x0,nor", 3000);
        CHECK.due("a target that is not there, and 4", faultAt("jal x0,none;halt", 127), 4001);
    }

    private static void calls() {
        TimedThreads x = new TimedThreads(1);
        Check.type(x, "nop");
        int[][] none = {{4, 0}, {-1, 0}, {0, 128}, {0, -1}, {Integer.MAX_VALUE, 0}, {0, Integer.MIN_VALUE}};
        for (int[] call : none) {
            CHECK.refused("assemble", java.util.NoSuchElementException.class, () -> x.assemble(call[0], call[1]));
        }
        CHECK.due("no assemble found its place", x.fault(0), 0);
        x.clear();
        Check.type(x, "halt\nword 5;word 4294967296");
        x.poke(1, 3, 77);
        CHECK.refused("assemble", IllegalArgumentException.class, () -> x.assemble(1, 3));
        CHECK.due("nothing is put", x.peek(1, 3), 77);
        CHECK.due("fault(0)", x.fault(0), 2);
        CHECK.due("fault(1)", x.fault(1), 2);
        CHECK.due("fault(2)", x.fault(2), 0);
        CHECK.due("fault(-1)", x.fault(-1), 0);
        CHECK.refused("assemble", java.util.NoSuchElementException.class, () -> x.assemble(4, 3));
        CHECK.due("a call without a place leaves the fault", x.fault(0), 2);
        CHECK.due("and its line", x.fault(1), 2);
        CHECK.due("the text stays", x.clear(), 27);
        Check.type(x, "halt\nword 5");
        CHECK.due("assemble", x.assemble(1, 3), 2);
        CHECK.due("again: the text stays", x.assemble(2, 0), 2);
        CHECK.due("no fault", x.fault(0), 0);
        CHECK.due("no line", x.fault(1), 0);
        int[] want = {0, 0, 0, 115, 5, 0};
        for (int k = 0; k < want.length; k++) {
            CHECK.due("peek(1, " + k + ")", x.peek(1, k), want[k]);
        }
        CHECK.due("others are left", x.peek(0, 3), 0);
        CHECK.refused("a fault of targets", IllegalArgumentException.class, () -> Check.assemble(x, "word 9;jal x0,a", 1, 3));
        CHECK.due("nothing is put", x.peek(1, 3), 115);
    }

    private static void word(String text, int want) {
        TimedThreads x = new TimedThreads(1);
        CHECK.due(text + ": fault", Check.faultOf(x, text, 1, 5), 0);
        CHECK.due(text, x.peek(1, 5), want);
    }

    private static void fault(String text, int want) {
        CHECK.due("fault of <" + text + ">", faultAt(text, 0), want);
    }

    private static int faultAt(String text, int word) {
        return Check.faultOf(new TimedThreads(1), text, 1, word);
    }
}
