import java.util.ArrayList;
import java.util.LinkedHashMap;
import java.util.List;
import java.util.Map;
import java.util.Random;
import java.util.regex.Matcher;
import java.util.regex.Pattern;

/**
 * Texts by chance (from fixed seeds), many of them with a character or a piece changed, beside an assembler that is
 * written anew from the document, with regular expressions.
 */
public final class RandomTextsTest {
    private static final Check CHECK = new Check();
    private static final Map<String, String> OPERANDS = new LinkedHashMap<>();
    private static final Map<String, Integer> BITS = new LinkedHashMap<>();
    private static final Pattern LINE = Pattern.compile(" *(?:([a-z]{1,8}+) *: *)?(?:([a-z]++)(.*))?");

    public static void main(String[] args) {
        table();
        int[] kinds = new int[5];
        for (int seed = 0; seed < 30000; seed++) {
            Random random = new Random(seed);
            String text = randomText(random);
            int first = random.nextInt(5) == 0 ? 128 - 1 - random.nextInt(12) : random.nextInt(100);
            kinds[compare(text, first)]++;
        }
        for (int kind = 0; kind < 5; kind++) {
            CHECK.due("texts with fault " + kind + ": " + kinds[kind], kinds[kind] > 200, true);
        }
        CHECK.end();
    }

    private static void table() {
        add("add sll slt sltu xor srl or and", "RD,RS,RT", 51, 0, 1, 2, 3, 4, 5, 6, 7);
        add("sub sra", "RD,RS,RT", 51 | 32 << 25, 0, 5);
        add("addi slti sltiu xori ori andi", "RD,RS,I", 19, 0, 2, 3, 4, 6, 7);
        add("slli srli", "RD,RS,H", 19, 1, 5);
        add("srai", "RD,RS,H", 19 | 32 << 25, 5);
        add("lb lw lbu", "RD,I(RS)", 3, 0, 2, 4);
        add("jalr", "RD,I(RS)", 103, 0);
        add("sb sw", "RT,S(RS)", 35, 0, 2);
        add("beq bne blt bge bltu bgeu", "RS,RT,B", 99, 0, 1, 4, 5, 6, 7);
        add("jal", "RD,J", 111, 0);
        add("lui", "RD,U", 55, 0);
        add("dead", "K,RS,I", 11, 0);
        add("cycle", "RD", 11, 1);
        add("halt", "", 115, 0);
        add("word", "W", 0, 0);
    }

    private static void add(String names, String operands, int bits, int... fs) {
        String[] all = names.split(" ");
        for (int k = 0; k < all.length; k++) {
            OPERANDS.put(all[k], operands);
            BITS.put(all[k], bits | fs[k] << 12);
        }
    }

    private static String randomText(Random random) {
        StringBuilder text = new StringBuilder();
        int lines = 1 + random.nextInt(20);
        boolean clean = random.nextInt(3) > 0;
        for (int k = 0; k < lines; k++) {
            if (k > 0) {
                text.append(random.nextBoolean() ? '\n' : ';');
            }
            if (random.nextInt(3) == 0) {
                text.append(blank(random)).append(clean ? "abcdefghijklmnopqrstu".charAt(k) : label(random))
                    .append(blank(random)).append(':');
            }
            if (random.nextInt(8) > 0) {
                text.append(blank(random)).append(instruction(random, clean));
            }
            text.append(blank(random));
        }
        if (random.nextInt(4) == 0 && text.length() > 0) {
            change(random, text);
        }
        return text.length() > 400 ? text.substring(0, 400) : text.toString();
    }

    private static void change(Random random, StringBuilder text) {
        int at = random.nextInt(text.length());
        String marks = "x,():;- \n0159az+ X";
        char mark = marks.charAt(random.nextInt(marks.length()));
        switch (random.nextInt(3)) {
            case 0:
                text.setCharAt(at, mark);
                break;
            case 1:
                text.insert(at, mark);
                break;
            default:
                text.deleteCharAt(at);
                break;
        }
    }

    private static String blank(Random random) {
        return "   ".substring(random.nextInt(8) == 0 ? random.nextInt(3) : 3);
    }

    private static String label(Random random) {
        String[] some = {"a", "b", "c", "d", "e", "f", "loop", "abcdefgh", "add", "x", "ab", "ba", "abcdefgi"};
        return random.nextInt(60) == 0 ? "abcdefghi" : some[random.nextInt(some.length)];
    }

    private static String instruction(Random random, boolean clean) {
        String[] names = OPERANDS.keySet().toArray(new String[0]);
        String name = names[random.nextInt(names.length)];
        StringBuilder text = new StringBuilder(name).append(' ');
        Matcher piece = Pattern.compile("[A-Z]+|[,()]").matcher(OPERANDS.get(name));
        while (piece.find()) {
            text.append(blank(random)).append(operand(piece.group(), random, clean));
        }
        return text.toString();
    }

    private static String operand(String piece, Random random, boolean clean) {
        if (!Character.isLetter(piece.charAt(0))) {
            return piece;
        }
        if (piece.startsWith("R")) {
            int k = random.nextInt(clean || random.nextInt(20) > 0 ? 16 : 20);
            return "x" + (k < 10 && random.nextInt(6) == 0 ? "0" : "") + k;
        }
        if ((piece.equals("B") || piece.equals("J")) && random.nextBoolean()) {
            return clean ? "" + "abcdefgh".charAt(random.nextInt(8)) : label(random);
        }
        long low = bounds(piece)[0];
        long high = bounds(piece)[1];
        long value;
        switch (random.nextInt(4)) {
            case 0:
                value = low;
                break;
            case 1:
                value = high;
                break;
            default:
                value = low + (long) (random.nextDouble() * (high - low));
                break;
        }
        value = piece.equals("B") || piece.equals("J") ? value / 2 * 2 : value;
        if (!clean && random.nextInt(10) == 0) {
            value += random.nextBoolean() ? 1 : -1;
        }
        String digits = Long.toString(value);
        return !clean && random.nextInt(40) == 0 && value >= 0 ? "0000000000".substring(digits.length() % 10) + digits : digits;
    }

    private static long[] bounds(String piece) {
        switch (piece) {
            case "I":
            case "S":
                return new long[] {-2048, 2047};
            case "H":
                return new long[] {0, 31};
            case "U":
                return new long[] {0, 1048575};
            case "K":
                return new long[] {0, 3};
            case "B":
                return new long[] {-4096, 4094};
            case "J":
                return new long[] {-1048576, 1048574};
            default:
                return new long[] {-2147483648L, 4294967295L};
        }
    }

    private static int compare(String text, int first) {
        Reference want = new Reference(text, first);
        TimedThreads x = new TimedThreads(1);
        int got = Check.faultOf(x, text, 2, first);
        CHECK.due("fault of <" + text + "> at " + first, got, want.fault * 1000 + want.line);
        for (int k = 0; k < 128; k++) {
            boolean inside = want.fault == 0 && k >= first && k < first + want.words.size();
            CHECK.due("word " + (k - first) + " of <" + text + ">", x.peek(2, k), inside ? want.words.get(k - first) : 0);
        }
        if (want.fault == 0) {
            CHECK.due("words of <" + text + ">", x.assemble(2, first), want.words.size());
        }
        return want.fault;
    }

    private static final class Reference {
        final List<Integer> words = new ArrayList<>();
        final Map<String, Integer> labels = new LinkedHashMap<>();
        final List<String[]> open = new ArrayList<>();
        int fault;
        int line;

        Reference(String text, int first) {
            String[] lines = text.split("[\n;]", -1);
            for (int k = 0; k < lines.length && fault == 0; k++) {
                fault = faultOf(lines[k], first, k);
                line = k;
            }
            for (int k = 0; k < open.size() && fault == 0; k++) {
                String[] one = open.get(k);
                int at = Integer.parseInt(one[1]);
                line = Integer.parseInt(one[2]);
                fault = labels.containsKey(one[0]) ? 0 : 3;
                if (fault == 0) {
                    words.set(at, words.get(at) | place(one[3], 4 * (labels.get(one[0]) - at)));
                }
            }
            line = fault == 0 ? 0 : line;
        }

        private int faultOf(String text, int first, int number) {
            Matcher parts = LINE.matcher(text);
            if (!parts.matches()) {
                return text.matches(" *") ? 0 : 1;
            }
            String label = parts.group(1);
            String name = parts.group(2);
            boolean fits = true;
            int word = 0;
            String target = null;
            String targetPiece = null;
            if (name != null) {
                if (!OPERANDS.containsKey(name)) {
                    return 1;
                }
                String operands = OPERANDS.get(name);
                Matcher found = Pattern.compile(pattern(operands)).matcher(parts.group(3));
                if (!found.matches()) {
                    return 1;
                }
                word = BITS.get(name);
                Matcher piece = Pattern.compile("[A-Z]+").matcher(operands);
                for (int k = 1; piece.find(); k++) {
                    String got = found.group(k);
                    boolean isRegister = piece.group().startsWith("R");
                    if (isRegister && Integer.parseInt(got) > 15) {
                        return 1;
                    }
                    if (got.matches("[a-z]+")) {
                        target = got;
                        targetPiece = piece.group();
                    } else if (isRegister) {
                        word |= place(piece.group(), Integer.parseInt(got));
                    } else if (fits(piece.group(), got)) {
                        word |= place(piece.group(), (int) Long.parseLong(got));
                    } else {
                        fits = false;
                    }
                }
            }
            if (!fits) {
                return 2;
            }
            if (label != null && labels.size() == 16 || name != null && first + words.size() > 127) {
                return 4;
            }
            if (label != null && labels.put(label, words.size()) != null) {
                return 3;
            }
            if (target != null) {
                open.add(new String[] {target, "" + words.size(), "" + number, targetPiece});
            }
            if (name != null) {
                words.add(word);
            }
            return 0;
        }

        private static String pattern(String operands) {
            StringBuilder text = new StringBuilder();
            Matcher piece = Pattern.compile("[A-Z]+|[,()]").matcher(operands);
            while (piece.find()) {
                String p = piece.group();
                text.append(" *");
                if (p.startsWith("R")) {
                    text.append("x([0-9]{1,2}+)");
                } else if (p.equals("B") || p.equals("J")) {
                    text.append("(-?[0-9]++|[a-z]{1,8}+)");
                } else {
                    text.append(Character.isLetter(p.charAt(0)) ? "(-?[0-9]++)" : "\\" + p);
                }
            }
            return text.append(" *").toString();
        }

        private static boolean fits(String piece, String number) {
            String digits = number.replace("-", "");
            if (digits.length() > 10) {
                return false;
            }
            long value = Long.parseLong(number);
            boolean target = piece.equals("B") || piece.equals("J");
            return value >= bounds(piece)[0] && value <= bounds(piece)[1] && !(target && value % 2 != 0);
        }

        private static int place(String piece, int value) {
            switch (piece) {
                case "RD":
                case "K":
                    return value << 7;
                case "RS":
                    return value << 15;
                case "RT":
                case "I":
                case "H":
                    return value << 20;
                case "U":
                    return value << 12;
                case "S":
                    return scatter(value, 7, 8, 9, 10, 11, 25, 26, 27, 28, 29, 30, 31);
                case "B":
                    return scatter(value, -1, 8, 9, 10, 11, 25, 26, 27, 28, 29, 30, 7, 31);
                case "J":
                    return scatter(value, -1, 21, 22, 23, 24, 25, 26, 27, 28, 29, 30, 20, 12, 13, 14, 15, 16, 17, 18, 19, 31);
                default:
                    return value;
            }
        }

        private static int scatter(int value, int... bits) {
            int word = 0;
            for (int k = 0; k < bits.length; k++) {
                if (bits[k] >= 0) {
                    word |= (value >> k & 1) << bits[k];
                }
            }
            return word;
        }
    }
}
