import java.util.ArrayList;
import java.util.List;

/**
 * The edges in 'Terms' that THE TEXT and TO ASSEMBLE stand on (promises 4 and 5), a test for each such sentence (it
 * stands above the test). A fault is told as its kind * 1000 + its line.
 */
public final class TextEdgesTest {
    private static final Check CHECK = new Check();
    private static final String SIXTEEN = "a:;b:;c:;d:;e:;f:;g:;h:;i:;j:;k:;l:;m:;n:;o:;p:;";

    /** Every instruction, its pieces parted by blanks: R is a register, I .. W numbers by their bounds, L a target. */
    private static final String[] FORMS = {"add R , R , R", "sll R , R , R", "slt R , R , R", "sltu R , R , R", "xor R , R , R",
        "srl R , R , R", "or R , R , R", "and R , R , R", "sub R , R , R", "sra R , R , R", "addi R , R , I", "slti R , R , I",
        "sltiu R , R , I", "xori R , R , I", "ori R , R , I", "andi R , R , I", "slli R , R , H", "srli R , R , H",
        "srai R , R , H", "lw R , I ( R )", "lb R , I ( R )", "lbu R , I ( R )", "jalr R , I ( R )", "sw R , I ( R )",
        "sb R , I ( R )", "beq R , R , B", "bne R , R , B", "blt R , R , B", "bge R , R , B", "bltu R , R , B",
        "bgeu R , R , B", "jal R , J", "lui R , U", "dead T , R , I", "cycle R", "halt", "word W"};

    public static void main(String[] args) {
        atMost400();
        linesAreParted();
        labelsOfOneToEight();
        labelsOfLetters();
        linesWithALabel();
        blanksBetweenPieces();
        noBlanksInPieces();
        everyPieceOnce();
        otherPieces();
        namesAsAbove();
        registers0To15();
        numbersAsDigits();
        lettersAndDigitsGoOn();
        numbersThatFit();
        evenDistances();
        moreThanTenDigits();
        wordsAsInts();
        targets();
        labelsTwice();
        labelsNotThere();
        seventeenthLabel();
        wordsBehindTheStore();
        orderInALine();
        firstLineCounts();
        targetsBehindAllLines();
        farthestTargets();
        CHECK.end();
    }

    /** "THE TEXT has at most 400 characters" */
    private static void atMost400() {
        fault("", 0);
        fault(" ".repeat(400), 0);
        fault(" ".repeat(396) + "halt", 0);
        CHECK.due("a text of 400", wordOf(" ".repeat(396) + "halt"), 115);
        CHECK.due("a label that ends it", wordOf(" ".repeat(390) + "x:jal x0,x"), 111);
        CHECK.due("a word that ends it", wordOf(" ".repeat(385) + "word 2147483647"), Integer.MAX_VALUE);
        CHECK.due("80 words", countOf("halt;".repeat(80)), 80);
        CHECK.due("100 lines", countOf(" ;;\n".repeat(99) + "halt"), 1);
        CHECK.due("the latest text of 400 alone counts", wordBehind("?".repeat(400), "word 5"), 5);
    }

    /** "LINES are parted by the character 10 or ;" */
    private static void linesAreParted() {
        CHECK.due("by both", countOf("halt\nhalt;halt"), 3);
        CHECK.due("empty lines", countOf(";\n;;halt;\n"), 1);
        fault("halt halt", 1000);
        fault("halt,halt", 1000);
        fault("halt:halt", 0);
        fault("halt\nhalt\n?", 1002);
        fault("halt;halt;?", 1002);
        fault("\n;\n;?", 1004);
        fault(";".repeat(399) + "?", 1399);
        fault("\n".repeat(400), 0);
        fault("?" + ";".repeat(399), 1000);
        fault("add x1;,x2,x3", 1000);
        fault("add x1,x2\n,x3", 1000);
        fault("a;:halt", 1000);
    }

    /** "perhaps a LABEL (1 to 8 letters a .. z), then a :" */
    private static void labelsOfOneToEight() {
        fault(":", 1000);
        fault(":halt", 1000);
        for (int letters = 1; letters <= 10; letters++) {
            String label = "labelname".repeat(2).substring(0, letters);
            int want = letters <= 8 ? 0 : 1000;
            fault(label + ":", want);
            fault(label + ":halt", want);
            fault(label + ":jal x0," + label, want);
            fault("beq x0,x0," + label, letters <= 8 ? 3000 : 1000);
        }
        CHECK.due("eight letters all count", wordAt("abcdefgh:;halt;abcdefgi:;jal x0,abcdefgi", 1), 111);
        CHECK.due("a part of a label is none", faultOf("abcdefgh:;jal x0,abcdefg"), 3001);
        CHECK.due("a first letter more is another", faultOf("bcdefgh:;jal x0,abcdefgh"), 3001);
    }

    /** "letters a .. z" */
    private static void labelsOfLetters() {
        for (char c = 33; c < 127; c++) {
            if (c == ';') {
                continue;
            }
            boolean letter = c >= 'a' && c <= 'z';
            fault(c + ":", letter ? 0 : 1000);
            fault("q" + c + ":", letter ? 0 : 1000);
            fault("x" + c + ":", letter ? 0 : 1000);
            if (letter) {
                CHECK.due("a target " + c, wordOf(c + ":jal x0," + c), 111);
            }
        }
    }

    /** "perhaps a LABEL .., then a : ; and behind that perhaps an instruction" */
    private static void linesWithALabel() {
        CHECK.due("neither", countOf(""), 0);
        CHECK.due("a label alone", countOf("a:"), 0);
        CHECK.due("an instruction alone", countOf("halt"), 1);
        CHECK.due("both", countOf("a:halt"), 1);
        CHECK.due("a label that is a name", countOf("halt:halt"), 1);
        fault("a", 1000);
        fault("a b:halt", 1000);
        fault("a:b:halt", 1000);
        fault("a::halt", 1000);
        fault("a:b", 1000);
        fault("halt a:", 1000);
        fault("a:halt b:", 1000);
        fault("a:,halt", 1000);
        fault("a:5", 1000);
        fault("5", 1000);
        fault("x1", 1000);
        fault("x1:halt", 1000);
        fault("a1:halt", 1000);
        fault("1a:halt", 1000);
        fault("-:halt", 1000);
    }

    /** "(blanks anywhere between its pieces)" */
    private static void blanksBetweenPieces() {
        for (String form : FORMS) {
            String[] pieces = piecesOf(form);
            int want = wordOf(joined(pieces, -1, ""));
            CHECK.due(form + ": none but behind its name", faultOf(joined(pieces, -1, "")), 0);
            for (int k = 0; k <= pieces.length; k++) {
                String line = joined(pieces, k, "   ");
                CHECK.due("<" + line + ">", faultOf(line), 0);
                CHECK.due("<" + line + ">: its word", wordOf(line), want);
                CHECK.due("<" + line + "> with a label", wordOf("  q  :  " + line), want);
            }
        }
    }

    /** Blanks are between pieces, not in them. */
    private static void noBlanksInPieces() {
        String[] wrong = {"ad d x1,x2,x3", "add x 1,x2,x3", "add x1,x2,x1 5", "addi x1,x2,- 5", "addi x1,x2,1 5", "lab el:halt",
            "hal t", "word 1 2", "word - 1", "jal x0,la bel", "dead 0 0,x1,1", "lui x1,1 0"};
        for (String line : wrong) {
            fault(line, 1000);
        }
    }

    /** "operands with commas between": each piece is there, once, and none more. */
    private static void everyPieceOnce() {
        for (String form : FORMS) {
            String[] pieces = piecesOf(form);
            for (int k = 0; k < pieces.length; k++) {
                List<String> less = new ArrayList<>(List.of(pieces));
                less.remove(k);
                // An empty line, and a line without its name, are looked at elsewhere.
                if (!less.isEmpty()) {
                    fault(String.join(" ", less), 1000);
                }
                List<String> more = new ArrayList<>(List.of(pieces));
                more.add(k, pieces[k]);
                fault(String.join(" ", more), 1000);
            }
            for (String rest : new String[] {",", "x1", "5", "a", "(", ")", ":", ", x1", ", 5", "halt", "(x1)", "-", "?"}) {
                // A name and a : are a label.
                boolean label = pieces.length == 1 && rest.equals(":");
                fault(String.join(" ", pieces) + " " + rest, label ? 0 : 1000);
            }
        }
    }

    /** A piece of another kind in a piece's stead. */
    private static void otherPieces() {
        String[] others = {"x1", "5", "a", ",", "(", ")", ":", "-", "?", "A", "#"};
        for (String form : FORMS) {
            String[] kinds = form.split(" ");
            for (int k = 1; k < kinds.length; k++) {
                for (String other : others) {
                    String[] pieces = piecesOf(form);
                    pieces[k] = other;
                    boolean label = pieces.length == 2 && other.equals(":");
                    fault(String.join(" ", pieces), label ? 0 : faultOfOther(kinds[k], other));
                }
            }
        }
    }

    private static int faultOfOther(String kind, String other) {
        if (kind.equals(other) || kind.equals("R") && other.equals("x1")) {
            return 0;
        }
        boolean target = kind.equals("B") || kind.equals("J");
        if (target && other.equals("a")) {
            return 3000;
        }
        if (!kind.equals("R") && Character.isLetter(kind.charAt(0)) && other.equals("5")) {
            return target || kind.equals("T") ? 2000 : 0;
        }
        return 1000;
    }

    /** "its name as above" */
    private static void namesAsAbove() {
        for (String form : FORMS) {
            String line = String.join(" ", piecesOf(form));
            String name = form.split(" ")[0];
            String rest = line.substring(name.length());
            fault(line, 0);
            fault(name.toUpperCase() + rest, 1000);
            fault(name + "y" + rest, 1000);
            fault("y" + name + rest, 1000);
            fault(name.substring(0, name.length() - 1) + "y" + rest, 1000);
        }
        for (String name : new String[] {"nop", "lh", "sh", "lhu", "auipc", "mul", "ecall", "ret", "j", "li", "mv", "subi", "x"}) {
            fault(name + " x1,x2,x3", 1000);
            fault(name, 1000);
        }
    }

    /** "registers as x and one or two digits right behind it, 0 .. 15"; "1 a line that is not like that (x16, too)" */
    private static void registers0To15() {
        for (String form : FORMS) {
            String[] kinds = form.split(" ");
            for (int k = 1; k < kinds.length; k++) {
                if (kinds[k].equals("R")) {
                    registerAt(form, k);
                }
            }
        }
    }

    private static void registerAt(String form, int k) {
        String[] right = {"x0", "x00", "x1", "x01", "x09", "x9", "x10", "x15"};
        String[] wrong = {"x", "x16", "x17", "x20", "x99", "x000", "x001", "x015", "x100", "x150", "x-1", "x 1", "1", "X1", "y1",
            "xx1", "x1x", "x1a", "-x1", "x00000000001"};
        String[] pieces = piecesOf(form);
        for (String register : right) {
            pieces[k] = register;
            fault(String.join(" ", pieces), 0);
        }
        for (String register : wrong) {
            pieces[k] = register;
            fault(String.join(" ", pieces), 1000);
        }
        pieces[k] = "x15";
        int fifteen = wordOf(String.join(" ", pieces));
        pieces[k] = "x0";
        int bits = fifteen ^ wordOf(String.join(" ", pieces));
        CHECK.due(form + ": x15 is four bits of a field", bits == 15 << 7 || bits == 15 << 15 || bits == 15 << 20, true);
    }

    /** "NUMBERS as digits, perhaps with a - right ahead" */
    private static void numbersAsDigits() {
        String[] right = {"0", "-0", "00", "-00", "1", "-1", "0000000001", "-000000001"};
        int[] values = {0, 0, 0, 0, 1, -1, 1, -1};
        for (int k = 0; k < right.length; k++) {
            CHECK.due("word " + right[k], wordOf("word " + right[k]), values[k]);
            CHECK.due("addi " + right[k], wordOf("addi x0,x0," + right[k]), 19 | values[k] << 20);
        }
        for (String number : new String[] {"-", "--1", "+1", "- 1", "1-", "1-1", "0x1", "1a", "a1", "1.0", "1_0", "'1'", "#1", "$1", "(1)",
            "1e3", "-x1", "-a", "1/", "/", "1:"}) {
            fault("word " + number, 1000);
            fault("addi x0,x0," + number, 1000);
            fault("jal x0," + number, 1000);
        }
    }

    /** "Letters, and digits, go on as far as there are such." */
    private static void lettersAndDigitsGoOn() {
        CHECK.due("digits end a name", wordOf("word5"), 5);
        CHECK.due("a - ends a name", wordOf("word-5"), -5);
        CHECK.due("digits end dead", wordOf("dead3,x0,0"), 11 | 3 << 7);
        fault("addx1,x2,x3", 1000);
        fault("cyclex1", 1000);
        fault("halthalt", 1000);
        fault("haltx1", 1000);
        fault("halt5", 1000);
        fault("add x1,x2,x153", 1000);
        fault("add x1,x2,x15x3", 1000);
        fault("lw x1,4x2", 1000);
        fault("beq x0,x0,ab1", 1000);
        fault("beq x0,x0,x1", 1000);
        fault("beq x0,x0,1a", 1000);
        fault("x:beq x0,x0,x", 0);
        fault("xx:beq x0,x0,xx", 0);
        fault("aword5", 1000);
    }

    /** "2 a number .. that does not fit (I, S -2048 .. 2047; .. shifts 0 .. 31; timers 0 .. 3 ..)"; "(the 20 bits of U, 0 .. 1048575)" */
    private static void numbersThatFit() {
        for (String form : FORMS) {
            String[] kinds = form.split(" ");
            for (int k = 1; k < kinds.length; k++) {
                long[] bounds = boundsOf(kinds[k]);
                if (bounds.length == 2) {
                    long step = kinds[k].equals("B") || kinds[k].equals("J") ? 2 : 1;
                    fits(form, k, bounds[0], true);
                    fits(form, k, bounds[1], true);
                    fits(form, k, 0, true);
                    fits(form, k, bounds[0] - step, false);
                    fits(form, k, bounds[1] + step, false);
                    fits(form, k, 9999999999L, false);
                    fits(form, k, -9999999999L, false);
                    // What these would be if a number were cut to 32 bits.
                    fits(form, k, bounds[0] + 8589934592L, false);
                    fits(form, k, bounds[1] - 8589934592L, false);
                }
            }
        }
    }

    private static void fits(String form, int k, long number, boolean want) {
        String[] pieces = piecesOf(form);
        pieces[k] = Long.toString(number);
        fault(String.join(" ", pieces), want ? 0 : 2000);
        fault("halt;;" + String.join(" ", pieces), want ? 0 : 2002);
    }

    private static long[] boundsOf(String kind) {
        switch (kind) {
            case "I":
                return new long[] {-2048, 2047};
            case "H":
                return new long[] {0, 31};
            case "T":
                return new long[] {0, 3};
            case "U":
                return new long[] {0, 1048575};
            case "B":
                return new long[] {-4096, 4094};
            case "J":
                return new long[] {-1048576, 1048574};
            case "W":
                return new long[] {-2147483648L, 4294967295L};
            default:
                return new long[0];
        }
    }

    /** "B even -4096 .. 4094, J even -1048576 .. 1048574" */
    private static void evenDistances() {
        for (String name : new String[] {"beq", "bne", "blt", "bge", "bltu", "bgeu"}) {
            for (int number : new int[] {1, -1, 3, 4093, 4095, -4095, -4097, 2047}) {
                fault(name + " x0,x0," + number, 2000);
            }
            fault(name + " x0,x0,2", 0);
            fault(name + " x0,x0,-2", 0);
        }
        for (int number : new int[] {1, -1, 3, 1048573, 1048575, -1048575, -1048577, 4097}) {
            fault("jal x0," + number, 2000);
        }
        fault("jal x0,2", 0);
        fault("jal x0,-2", 0);
        CHECK.due("the least B", wordOf("beq x0,x0,-4096"), 99 | 0x80000000);
        CHECK.due("the greatest B", wordOf("beq x0,x0,4094"), 99 | 0x7e000f80);
        CHECK.due("the least J", wordOf("jal x0,-1048576"), 111 | 0x80000000);
        CHECK.due("the greatest J", wordOf("jal x0,1048574"), 111 | 0x7ffff000);
    }

    /** "more than ten digits" */
    private static void moreThanTenDigits() {
        for (String form : FORMS) {
            String[] kinds = form.split(" ");
            for (int k = 1; k < kinds.length; k++) {
                if (boundsOf(kinds[k]).length == 2) {
                    digitsAt(form, k, "0000000000", 0);
                    digitsAt(form, k, "0000000002", 0);
                    digitsAt(form, k, "-0000000000", 0);
                    digitsAt(form, k, "00000000000", 2000);
                    digitsAt(form, k, "00000000002", 2000);
                    digitsAt(form, k, "-00000000000", 2000);
                    digitsAt(form, k, "18446744073709551616", 2000);
                    digitsAt(form, k, "0".repeat(200), 2000);
                    digitsAt(form, k, "9".repeat(300), 2000);
                }
            }
        }
        CHECK.due("ten digits", wordOf("word 4294967295"), -1);
        CHECK.due("ten digits and a -", wordOf("word -2147483648"), Integer.MIN_VALUE);
    }

    private static void digitsAt(String form, int k, String digits, int want) {
        String[] pieces = piecesOf(form);
        pieces[k] = digits;
        fault(String.join(" ", pieces), want);
    }

    /** "word, with a number (as an int or without sign), which is that word"; "word -2147483648 .. 4294967295" */
    private static void wordsAsInts() {
        CHECK.due("the least", wordOf("word -2147483648"), Integer.MIN_VALUE);
        CHECK.due("the greatest int", wordOf("word 2147483647"), Integer.MAX_VALUE);
        CHECK.due("one more", wordOf("word 2147483648"), Integer.MIN_VALUE);
        CHECK.due("the greatest", wordOf("word 4294967295"), -1);
        CHECK.due("-1", wordOf("word -1"), -1);
        fault("word 4294967296", 2000);
        fault("word -2147483649", 2000);
    }

    /** "A target is a label, or a number (B or J)." */
    private static void targets() {
        CHECK.due("a label ahead", wordAt("a:halt;jal x0,a", 1), 111 | 0xffdff000);
        CHECK.due("a label behind", wordOf("jal x0,a;halt;a:"), 111 | 4 << 21);
        CHECK.due("its own", wordOf("a:jal x0,a"), 111);
        CHECK.due("a label on a line of its own", wordOf("a:;;jal x0,a"), 111);
        CHECK.due("a number", wordOf("jal x0,8"), 111 | 4 << 21);
        CHECK.due("a branch to a label", wordOf("beq x0,x0,a;halt;a:"), 99 | 8 << 7);
        CHECK.due("a branch back", wordAt("a:halt;beq x0,x0,a", 1), 99 | 0xfe000e80);
        fault("a:addi x0,x0,a", 1000);
        fault("a:word a", 1000);
        fault("a:lw x0,a(x0)", 1000);
        fault("a:jalr x0,a(x0)", 1000);
        fault("a:lui x0,a", 1000);
        fault("a:jal x0,-a", 1000);
        fault("a:jal a", 1000);
    }

    /** "3 a label that is twice" */
    private static void labelsTwice() {
        fault("a:;a:", 3001);
        fault("a:halt;b:halt;halt;a:halt", 3003);
        fault("a:;a:;a:", 3001);
        fault("a:;b:;b:;a:", 3002);
        fault("a:;aa:;aaa:;aaaa:", 0);
        fault("abcdefgh:;abcdefg:;abcdefgi:", 0);
        fault("abcdefgh:;abcdefgh:", 3001);
        fault("jal x0,a;jal x0,a;a:", 0);
    }

    /** "3 a label .. not there" */
    private static void labelsNotThere() {
        fault("jal x0,a", 3000);
        fault("b:;beq x0,x0,a", 3001);
        fault("aa:;jal x0,a", 3001);
        fault("a:;jal x0,aa", 3001);
        fault("halt:;jal x0,word", 3001);
        TimedThreads x = new TimedThreads(1);
        CHECK.due("a label of a text before", Check.assemble(x, "a:halt", 0, 0), 1);
        CHECK.due("is not there", Check.faultOf(x, "jal x0,a", 0, 0), 3000);
        CHECK.due("nor twice", Check.faultOf(x, "a:halt", 0, 0), 0);
    }

    /** "4 a 17th label" */
    private static void seventeenthLabel() {
        fault(SIXTEEN, 0);
        fault(SIXTEEN + "jal x0,a;jal x0,p", 0);
        fault(SIXTEEN + "q:", 4016);
        fault(SIXTEEN + "halt;q:halt", 4017);
        fault(SIXTEEN.replace(";", ";halt;") + "q:", 4032);
        fault(SIXTEEN + "jal x0,q", 3016);
        CHECK.due("the 16th is found", wordOf(SIXTEEN.substring(0, 45) + "p:jal x0,p"), 111);
        TimedThreads x = new TimedThreads(1);
        CHECK.due("sixteen", Check.faultOf(x, SIXTEEN, 0, 0), 0);
        CHECK.due("and sixteen in another text", Check.faultOf(x, SIXTEEN, 0, 0), 0);
    }

    /** "4 .. a word behind the store" */
    private static void wordsBehindTheStore() {
        for (int from : new int[] {127, 126, 120, 49, 48}) {
            int room = Math.min(80, 128 - from);
            faultFrom(from, "halt;".repeat(room), 0);
            if (room < 80) {
                faultFrom(from, "halt;".repeat(room + 1), 4000 + room);
                faultFrom(from, "halt;".repeat(room) + "a:;;;", 0);
            }
        }
        faultFrom(49, "halt;".repeat(80), 4079);
        faultFrom(127, "a:;b:;;halt;c:;;d:", 0);
        faultFrom(127, "a:;b:;;halt;c:;;word 5", 4006);
        faultFrom(127, "jal x0,a;a:", 0);
        faultFrom(127, "", 0);
    }

    /** "in one line 1, then 2, 4, 3" */
    private static void orderInALine() {
        // Behind sixteen labels (p among them) at word 127, which is taken: q: is a 17th, p: is twice.
        String past = SIXTEEN + "halt;";
        String[][] lines = {
            {"nop", "1"}, {"word 4294967296 5", "1"}, {"q:nop", "1"}, {"p:nop", "1"}, {"p:word 4294967296,", "1"},
            {"q:word x16", "1"}, {"add x16,x1,x1", "1"}, {"addi x16,x1,2048", "1"}, {"addi x1,x1,2048;", "2"},
            {"word 4294967296", "2"}, {"q:word 4294967296", "2"}, {"p:word 4294967296", "2"}, {"p:jal x0,1", "2"},
            {"q:slli x1,x1,32", "2"}, {"p:dead 4,x1,0", "2"},
            {"halt", "4"}, {"q:", "4"}, {"q:halt", "4"}, {"p:halt", "4"}, {"p:jal x0,none", "4"}, {"jal x0,none", "4"}};
        for (String[] line : lines) {
            faultFrom(127, past + line[0], Integer.parseInt(line[1]) * 1000 + 17);
        }
        faultFrom(127, "a:halt;a:halt", 4001);
        faultFrom(127, "a:halt;a:", 3001);
        faultFrom(126, "a:halt;a:halt", 3001);
        faultFrom(0, "a:;a:nop", 1001);
        faultFrom(0, "a:;a:word 4294967296", 2001);
        faultFrom(0, "addi x1,x1,2048,x16", 1000);
        faultFrom(0, "dead 4,x1,", 1000);
        faultFrom(0, "sw x1,2048(x16)", 1000);
        // Not said plainly: a 17th label that is also twice has both faults, and 4 goes before 3.
        faultFrom(0, SIXTEEN + "a:", 4016);
    }

    /** "The first line with a fault counts" */
    private static void firstLineCounts() {
        String[] lines = {"nop", "word 4294967296", "a:", "q:;halt"};
        int[] kinds = {1, 2, 3, 4};
        for (int j = 0; j < lines.length; j++) {
            for (int k = 0; k < lines.length; k++) {
                // a: is twice; of q:;halt the halt does not fit behind the store.
                String text = "a:halt;" + lines[j] + ";" + lines[k];
                faultFrom(127, text, 1000 * kinds[j] + (kinds[j] == 4 ? 2 : 1));
            }
        }
    }

    /** "targets that are labels are looked for (3, ..) behind all lines, in their order, when there was no other fault" */
    private static void targetsBehindAllLines() {
        faultFrom(0, "jal x0,none;nop", 1001);
        faultFrom(0, "jal x0,none;word 4294967296", 2001);
        faultFrom(0, "jal x0,none;a:;a:", 3002);
        faultFrom(127, "jal x0,none;halt", 4001);
        faultFrom(0, "jal x0,none;" + SIXTEEN + "q:", 4017);
        faultFrom(0, "jal x0,none;jal x0,nor", 3000);
        faultFrom(0, "jal x0,a;jal x0,nor;jal x0,none;a:", 3001);
        faultFrom(0, ";;beq x0,x0,nor;;jal x0,none;a:", 3002);
        faultFrom(0, "jal x0,a;jal x0,b;b:;;a:", 0);
        faultFrom(0, "jal x0,none;jal x0,1", 2001);
    }

    /** "a distance that does not fit": a label is never so far, but the farthest come out right. */
    private static void farthestTargets() {
        String words = "halt;".repeat(76);
        CHECK.due("far ahead", wordOf("jal x0,a;" + words + "a:"), 111 | (77 * 2) << 21);
        CHECK.due("a branch far ahead", wordOf("beq x0,x0,a;" + words + "a:"), 99 | 0x12000000 | 20 << 7);
        CHECK.due("far back", wordAt("a:" + words + "jal x0,a", 76), 111 | 0x80000000 | (1024 - 152) << 21 | 0x1ff000);
        CHECK.due("a branch far back", wordAt("a:" + words + "beq x0,x0,a", 76), 99 | 0xec000000 | 16 << 7 | 1 << 7);
    }

    private static String[] piecesOf(String form) {
        String[] pieces = form.split(" ");
        for (int k = 1; k < pieces.length; k++) {
            if (pieces[k].equals("R")) {
                pieces[k] = "x3";
            } else if (Character.isLetter(pieces[k].charAt(0))) {
                pieces[k] = "2";
            }
        }
        return pieces;
    }

    /** Pieces right behind one another (but a blank behind the name), with blanks ahead of one of them. */
    private static String joined(String[] pieces, int at, String blanks) {
        StringBuilder line = new StringBuilder();
        for (int k = 0; k < pieces.length; k++) {
            line.append(k == at ? blanks : k == 1 ? " " : "").append(pieces[k]);
        }
        return line.append(at == pieces.length ? blanks : "").toString();
    }

    private static void fault(String text, int want) {
        faultFrom(0, text, want);
    }

    private static void faultFrom(int word, String text, int want) {
        CHECK.due("fault of <" + text + "> from " + word + " on", Check.faultOf(new TimedThreads(1), text, 1, word), want);
    }

    private static int faultOf(String text) {
        return Check.faultOf(new TimedThreads(1), text, 1, 0);
    }

    private static int countOf(String text) {
        return Check.assemble(new TimedThreads(1), text, 1, 0);
    }

    private static int wordOf(String text) {
        return wordAt(text, 0);
    }

    private static int wordAt(String text, int word) {
        TimedThreads x = new TimedThreads(1);
        Check.faultOf(x, text, 1, 0);
        return x.peek(1, word);
    }

    private static int wordBehind(String before, String text) {
        TimedThreads x = new TimedThreads(1);
        Check.faultOf(x, before, 1, 0);
        Check.assemble(x, text, 1, 0);
        return x.peek(1, 0);
    }
}
