import java.util.NoSuchElementException;

/**
 * Four threads that take turns in one pipeline, with an assembler for their programs.
 * No call makes an object: every row is made with the object and used again.
 */
public final class TimedThreads {
    private static final int THREADS = 4;
    private static final int REGISTERS = 16;
    private static final int TIMERS = 4;
    private static final int STORE_WORDS = 128;
    private static final int STORE_BYTES = 512;
    private static final int SHARED_WORDS = 64;
    private static final int SHARED_BASE = 4096;
    private static final int WIDEST_WHEEL = 8;
    private static final int MOST_CYCLES = 2000;
    private static final int MOST_CHARACTERS = 400;
    private static final int MOST_LABELS = 16;
    private static final int MOST_LETTERS = 8;
    private static final int MOST_DIGITS = 10;
    private static final int TRACED = 16;
    private static final int PIPELINE = 4;

    private static final int OP_LUI = 55;
    private static final int OP_JAL = 111;
    private static final int OP_JALR = 103;
    private static final int OP_BRANCH = 99;
    private static final int OP_LOAD = 3;
    private static final int OP_STORE = 35;
    private static final int OP_NUMBER = 19;
    private static final int OP_REGISTER = 51;
    private static final int OP_TIMED = 11;
    private static final int HALT = 115;
    private static final int G_OTHER = 32;

    private static final int F_BYTE = 0;
    private static final int F_WORD = 2;
    private static final int F_BYTE_UNSIGNED = 4;

    private static final int RD_BIT = 7;
    private static final int F_BIT = 12;
    private static final int RS_BIT = 15;
    private static final int RT_BIT = 20;
    private static final int G_BIT = 25;

    private static final int NEVER_RAN = 0;
    private static final int RUNS = 1;
    private static final int HALTED = 2;
    private static final int FAULTED = 3;

    private static final int NO_FAULT = 0;
    private static final int MALFORMED = 1;
    private static final int MISFIT = 2;
    private static final int WRONG_LABEL = 3;
    private static final int TOO_MANY = 4;

    private static final Mnemonic[] MNEMONICS = Mnemonic.values();

    private final SharedMemory memory;
    private final TimedThread[] threads;
    private final Text text;
    private final Assembler assembler;
    private int cycle;

    public TimedThreads(int wheel) {
        memory = new SharedMemory(Math.max(1, Math.min(WIDEST_WHEEL, wheel)));
        threads = new TimedThread[THREADS];
        for (int k = 0; k < THREADS; k++) {
            threads[k] = new TimedThread(k);
        }
        text = new Text();
        assembler = new Assembler(text);
    }

    public int type(long characters, int n) throws IllegalArgumentException, IllegalStateException {
        if (!Text.canBeTyped(characters, n)) {
            throw new IllegalArgumentException();
        }
        if (text.length + n > MOST_CHARACTERS) {
            throw new IllegalStateException();
        }
        text.add(characters, n);
        return text.length;
    }

    public int clear() {
        int had = text.length;
        text.length = 0;
        return had;
    }

    public int assemble(int thread, int word) throws NoSuchElementException, IllegalArgumentException {
        if (!isStoreWord(thread, word)) {
            throw new NoSuchElementException();
        }
        assembler.read(word);
        if (assembler.faultKind != NO_FAULT) {
            throw new IllegalArgumentException();
        }
        System.arraycopy(assembler.words, 0, threads[thread].store, word, assembler.count);
        return assembler.count;
    }

    public int fault(int what) {
        if (what == 0) {
            return assembler.faultKind;
        }
        return what == 1 ? assembler.faultLine : 0;
    }

    public int peek(int thread, int word) {
        return isStoreWord(thread, word) ? threads[thread].store[word] : 0;
    }

    public boolean poke(int thread, int word, int value) {
        if (!isStoreWord(thread, word)) {
            return false;
        }
        threads[thread].store[word] = value;
        return true;
    }

    public int shared(int word) {
        return word >= 0 && word < SHARED_WORDS ? memory.words[word] : 0;
    }

    public boolean part(int thread, int low, int high) {
        if (!isThread(thread) || low < 0 || low > high || high > SHARED_WORDS) {
            return false;
        }
        threads[thread].low = low;
        threads[thread].high = high;
        return true;
    }

    public boolean start(int thread, int address) {
        if (!isThread(thread)) {
            return false;
        }
        threads[thread].begin(address, cycle);
        return true;
    }

    public int run(int n) {
        if (n < 0 || n > MOST_CYCLES) {
            return -1;
        }
        int done = 0;
        for (int k = 0; k < n; k++) {
            if (threads[Math.floorMod(cycle, THREADS)].takeTurn(cycle, memory)) {
                done++;
            }
            cycle++;
        }
        return done;
    }

    public int now() {
        return cycle;
    }

    public int register(int thread, int k) {
        return isThread(thread) && isRegister(k) ? threads[thread].registers[k] : 0;
    }

    public int state(int thread, int what) {
        return isThread(thread) ? threads[thread].condition(what) : -1;
    }

    public int trace(int thread, int k, int what) {
        return isThread(thread) ? threads[thread].history.entry(k, what) : -1;
    }

    private static boolean isThread(int thread) {
        return thread >= 0 && thread < THREADS;
    }

    private static boolean isStoreWord(int thread, int word) {
        return isThread(thread) && word >= 0 && word < STORE_WORDS;
    }

    private static boolean isRegister(int k) {
        return k >= 0 && k < REGISTERS;
    }

    /** What became of an instruction in its turn. */
    private enum Outcome {
        DONE, TRY_AGAIN, FAULT
    }

    /** The fields and the numbers of an instruction, out of its word and into it. */
    private static final class Fields {
        static int op(int word) {
            return word & 127;
        }

        static int rd(int word) {
            return (word >>> RD_BIT) & 31;
        }

        static int f(int word) {
            return (word >>> F_BIT) & 7;
        }

        static int rs(int word) {
            return (word >>> RS_BIT) & 31;
        }

        static int rt(int word) {
            return (word >>> RT_BIT) & 31;
        }

        static int g(int word) {
            return word >>> G_BIT;
        }

        static int numberI(int word) {
            return word >> RT_BIT;
        }

        static int numberS(int word) {
            return ((word >> G_BIT) << 5) | rd(word);
        }

        static int numberB(int word) {
            return ((word >> 31) << 12) | ((word << 4) & 0x800) | ((word >>> 20) & 0x7e0) | ((word >>> 7) & 0x1e);
        }

        static int numberJ(int word) {
            return ((word >> 31) << 20) | (word & 0xff000) | ((word >>> 9) & 0x800) | ((word >>> 20) & 0x7fe);
        }

        static int numberU(int word) {
            return word & 0xfffff000;
        }

        static int bitsOfS(int number) {
            return ((number >> 5) << G_BIT) | ((number & 31) << RD_BIT);
        }

        static int bitsOfB(int number) {
            return ((number >> 12) << 31) | ((number & 0x7e0) << 20) | ((number & 0x1e) << 7) | ((number & 0x800) >> 4);
        }

        static int bitsOfJ(int number) {
            return ((number >> 20) << 31) | ((number & 0x7fe) << 20) | ((number & 0x800) << 9) | (number & 0xff000);
        }
    }

    /** The shared words, and the wheel by which the threads come to them. */
    private static final class SharedMemory {
        final int[] words = new int[SHARED_WORDS];
        private final int wheel;

        SharedMemory(int wheel) {
            this.wheel = wheel;
        }

        int retirement(int thread, int cycle) {
            int untilSlot = Math.floorMod(wheel * thread - cycle, THREADS * wheel);
            return cycle + untilSlot + wheel;
        }
    }

    /** The latest instructions that a thread did, in rows that go round. */
    private static final class History {
        int count;
        private final int[] addresses = new int[TRACED];
        private final int[] cycles = new int[TRACED];
        private final int[] retirements = new int[TRACED];

        void add(int address, int cycle, int retirement) {
            int place = placeOf(count);
            addresses[place] = address;
            cycles[place] = cycle;
            retirements[place] = retirement;
            count++;
        }

        int entry(int k, int what) {
            if (k < 0 || k >= TRACED || k >= count) {
                return -1;
            }
            int place = placeOf(count - 1 - k);
            switch (what) {
                case 0:
                    return addresses[place];
                case 1:
                    return cycles[place];
                case 2:
                    return retirements[place];
                default:
                    return -1;
            }
        }

        private static int placeOf(int position) {
            return Math.floorMod(position, TRACED);
        }
    }

    /** One thread: what it holds, and how it does an instruction. */
    private static final class TimedThread {
        final int[] registers = new int[REGISTERS];
        final int[] store = new int[STORE_WORDS];
        final History history = new History();
        int low;
        int high;
        private final int number;
        private final int[] timers = new int[TIMERS];
        private int status = NEVER_RAN;
        private int address;
        private int ready;
        // Where the instruction at hand leads and when it retires: they count only once it is done.
        private int nextAddress;
        private int retirement;

        TimedThread(int number) {
            this.number = number;
        }

        void begin(int from, int cycle) {
            status = RUNS;
            address = from;
            ready = cycle;
        }

        int condition(int what) {
            switch (what) {
                case 0:
                    return status;
                case 1:
                    return address;
                case 2:
                    return history.count;
                case 3:
                    return ready;
                default:
                    return what >= 4 && what < 4 + TIMERS ? timers[what - 4] : -1;
            }
        }

        boolean takeTurn(int cycle, SharedMemory memory) {
            if (status != RUNS || cycle < ready) {
                return false;
            }
            Outcome outcome = attempt(cycle, memory);
            if (outcome == Outcome.FAULT) {
                status = FAULTED;
            }
            if (outcome != Outcome.DONE) {
                return false;
            }
            history.add(address, cycle, retirement);
            address = nextAddress;
            ready = retirement;
            return true;
        }

        private Outcome attempt(int cycle, SharedMemory memory) {
            if (!isInStore(address) || !isAligned(address)) {
                return Outcome.FAULT;
            }
            int word = store[address >> 2];
            nextAddress = address + 4;
            retirement = cycle + PIPELINE;
            switch (Fields.op(word)) {
                case OP_LUI:
                    return loadUpper(word);
                case OP_JAL:
                    return jump(word);
                case OP_JALR:
                    return jumpToRegister(word);
                case OP_BRANCH:
                    return branch(word);
                case OP_LOAD:
                    return load(word, cycle, memory);
                case OP_STORE:
                    return save(word, cycle, memory);
                case OP_NUMBER:
                    return computeWithNumber(word);
                case OP_REGISTER:
                    return computeWithRegister(word);
                case OP_TIMED:
                    return timed(word, cycle);
                case HALT:
                    return halt(word);
                default:
                    return Outcome.FAULT;
            }
        }

        private Outcome loadUpper(int word) {
            int rd = Fields.rd(word);
            if (!isRegister(rd)) {
                return Outcome.FAULT;
            }
            setRegister(rd, Fields.numberU(word));
            return Outcome.DONE;
        }

        private Outcome jump(int word) {
            int rd = Fields.rd(word);
            if (!isRegister(rd)) {
                return Outcome.FAULT;
            }
            setRegister(rd, nextAddress);
            nextAddress = address + Fields.numberJ(word);
            return Outcome.DONE;
        }

        private Outcome jumpToRegister(int word) {
            int rd = Fields.rd(word);
            int rs = Fields.rs(word);
            if (Fields.f(word) != 0 || !isRegister(rd) || !isRegister(rs)) {
                return Outcome.FAULT;
            }
            // RD may be RS, so the target is taken before RD is set.
            int target = (registers[rs] + Fields.numberI(word)) & ~1;
            setRegister(rd, nextAddress);
            nextAddress = target;
            return Outcome.DONE;
        }

        private Outcome branch(int word) {
            int f = Fields.f(word);
            int rs = Fields.rs(word);
            int rt = Fields.rt(word);
            if (f == 2 || f == 3 || !isRegister(rs) || !isRegister(rt)) {
                return Outcome.FAULT;
            }
            if (isSo(f, registers[rs], registers[rt])) {
                nextAddress = address + Fields.numberB(word);
            }
            return Outcome.DONE;
        }

        private static boolean isSo(int f, int left, int right) {
            switch (f) {
                case 0:
                    return left == right;
                case 1:
                    return left != right;
                case 4:
                    return left < right;
                case 5:
                    return left >= right;
                case 6:
                    return isBelowUnsigned(left, right);
                default:
                    return !isBelowUnsigned(left, right);
            }
        }

        private static boolean isBelowUnsigned(int left, int right) {
            return (left & 0xffffffffL) < (right & 0xffffffffL);
        }

        private Outcome load(int word, int cycle, SharedMemory memory) {
            int f = Fields.f(word);
            int rd = Fields.rd(word);
            int rs = Fields.rs(word);
            boolean known = f == F_WORD || f == F_BYTE || f == F_BYTE_UNSIGNED;
            if (!known || !isRegister(rd) || !isRegister(rs)) {
                return Outcome.FAULT;
            }
            int at = registers[rs] + Fields.numberI(word);
            if (!canReach(at, f)) {
                return Outcome.FAULT;
            }
            int found = rowOf(at, memory)[placeOf(at)];
            int lowest = (found >>> bitOf(at)) & 255;
            if (f == F_BYTE) {
                found = (byte) lowest;
            } else if (f == F_BYTE_UNSIGNED) {
                found = lowest;
            }
            setRegister(rd, found);
            setRetirement(at, cycle, memory);
            return Outcome.DONE;
        }

        private Outcome save(int word, int cycle, SharedMemory memory) {
            int f = Fields.f(word);
            int rs = Fields.rs(word);
            int rt = Fields.rt(word);
            boolean known = f == F_WORD || f == F_BYTE;
            if (!known || !isRegister(rs) || !isRegister(rt)) {
                return Outcome.FAULT;
            }
            int at = registers[rs] + Fields.numberS(word);
            if (!canReach(at, f)) {
                return Outcome.FAULT;
            }
            int mask = f == F_WORD ? -1 : 255 << bitOf(at);
            int value = f == F_WORD ? registers[rt] : registers[rt] << bitOf(at);
            int[] row = rowOf(at, memory);
            int place = placeOf(at);
            row[place] = (row[place] & ~mask) | (value & mask);
            setRetirement(at, cycle, memory);
            return Outcome.DONE;
        }

        private boolean canReach(int at, int f) {
            boolean inPart = at >= SHARED_BASE + 4 * low && at < SHARED_BASE + 4 * high;
            return (isInStore(at) || inPart) && (f != F_WORD || isAligned(at));
        }

        private int[] rowOf(int at, SharedMemory memory) {
            return isInStore(at) ? store : memory.words;
        }

        private static int placeOf(int at) {
            return (isInStore(at) ? at : at - SHARED_BASE) >> 2;
        }

        // The lowest byte of a word stands at its lowest address.
        private static int bitOf(int at) {
            return (at & 3) << 3;
        }

        private void setRetirement(int at, int cycle, SharedMemory memory) {
            if (!isInStore(at)) {
                retirement = memory.retirement(number, cycle);
            }
        }

        private Outcome computeWithNumber(int word) {
            int f = Fields.f(word);
            int g = Fields.g(word);
            int rd = Fields.rd(word);
            int rs = Fields.rs(word);
            boolean wrongShift = (f == 1 && g != 0) || (f == 5 && g != 0 && g != G_OTHER);
            if (wrongShift || !isRegister(rd) || !isRegister(rs)) {
                return Outcome.FAULT;
            }
            // The lowest five bits of I are RT's bits, so I serves the shifts too.
            boolean other = f == 5 && g == G_OTHER;
            setRegister(rd, compute(f, other, registers[rs], Fields.numberI(word)));
            return Outcome.DONE;
        }

        private Outcome computeWithRegister(int word) {
            int f = Fields.f(word);
            int g = Fields.g(word);
            int rd = Fields.rd(word);
            int rs = Fields.rs(word);
            int rt = Fields.rt(word);
            boolean known = g == 0 || (g == G_OTHER && (f == 0 || f == 5));
            if (!known || !isRegister(rd) || !isRegister(rs) || !isRegister(rt)) {
                return Outcome.FAULT;
            }
            setRegister(rd, compute(f, g == G_OTHER, registers[rs], registers[rt]));
            return Outcome.DONE;
        }

        // Java's own shifts look at the lowest five bits alone, as these do.
        private static int compute(int f, boolean other, int left, int right) {
            switch (f) {
                case 0:
                    return other ? left - right : left + right;
                case 1:
                    return left << right;
                case 2:
                    return left < right ? 1 : 0;
                case 3:
                    return isBelowUnsigned(left, right) ? 1 : 0;
                case 4:
                    return left ^ right;
                case 5:
                    return other ? left >> right : left >>> right;
                case 6:
                    return left | right;
                default:
                    return left & right;
            }
        }

        private Outcome timed(int word, int cycle) {
            int f = Fields.f(word);
            int rd = Fields.rd(word);
            if (f == 0) {
                return setTimer(rd, word, cycle);
            }
            if (f != 1 || !isRegister(rd)) {
                return Outcome.FAULT;
            }
            setRegister(rd, cycle);
            return Outcome.DONE;
        }

        private Outcome setTimer(int timer, int word, int cycle) {
            int rs = Fields.rs(word);
            if (timer >= TIMERS || !isRegister(rs)) {
                return Outcome.FAULT;
            }
            if (cycle < timers[timer]) {
                return Outcome.TRY_AGAIN;
            }
            long due = (long) cycle + registers[rs] + Fields.numberI(word);
            timers[timer] = (int) Math.min(2147483647L, Math.max(cycle, due));
            return Outcome.DONE;
        }

        private Outcome halt(int word) {
            if (word != HALT) {
                return Outcome.FAULT;
            }
            status = HALTED;
            return Outcome.DONE;
        }

        private void setRegister(int k, int value) {
            if (k != 0) {
                registers[k] = value;
            }
        }

        private static boolean isInStore(int at) {
            return at >= 0 && at < STORE_BYTES;
        }

        private static boolean isAligned(int at) {
            return (at & 3) == 0;
        }
    }

    /** The characters that were typed. */
    private static final class Text {
        final char[] characters = new char[MOST_CHARACTERS];
        int length;

        static boolean canBeTyped(long typed, int n) {
            if (n < 1 || n > 8) {
                return false;
            }
            for (int k = 0; k < n; k++) {
                char c = byteOf(typed, k);
                if (c != '\n' && (c < 32 || c > 126)) {
                    return false;
                }
            }
            return true;
        }

        void add(long typed, int n) {
            for (int k = 0; k < n && length < MOST_CHARACTERS; k++) {
                characters[length] = byteOf(typed, k);
                length++;
            }
        }

        private static char byteOf(long typed, int k) {
            return (char) ((typed >>> (8 * k)) & 255);
        }
    }

    /**
     * An instruction's name, the pieces behind it, and the bits that all its words have.
     * Pieces: d, s, t the registers RD, RS, RT; i, m the numbers I, S; h a shift; u the bits of U;
     * k a timer; w a word; b, j the targets B, J; a comma or bracket is itself.
     */
    private enum Mnemonic {
        LUI("lui", "d,u", OP_LUI, 0, 0),
        JAL("jal", "d,j", OP_JAL, 0, 0),
        JALR("jalr", "d,i(s)", OP_JALR, 0, 0),
        BEQ("beq", "s,t,b", OP_BRANCH, 0, 0),
        BNE("bne", "s,t,b", OP_BRANCH, 1, 0),
        BLT("blt", "s,t,b", OP_BRANCH, 4, 0),
        BGE("bge", "s,t,b", OP_BRANCH, 5, 0),
        BLTU("bltu", "s,t,b", OP_BRANCH, 6, 0),
        BGEU("bgeu", "s,t,b", OP_BRANCH, 7, 0),
        LW("lw", "d,i(s)", OP_LOAD, F_WORD, 0),
        LB("lb", "d,i(s)", OP_LOAD, F_BYTE, 0),
        LBU("lbu", "d,i(s)", OP_LOAD, F_BYTE_UNSIGNED, 0),
        SW("sw", "t,m(s)", OP_STORE, F_WORD, 0),
        SB("sb", "t,m(s)", OP_STORE, F_BYTE, 0),
        ADDI("addi", "d,s,i", OP_NUMBER, 0, 0),
        SLTI("slti", "d,s,i", OP_NUMBER, 2, 0),
        SLTIU("sltiu", "d,s,i", OP_NUMBER, 3, 0),
        XORI("xori", "d,s,i", OP_NUMBER, 4, 0),
        ORI("ori", "d,s,i", OP_NUMBER, 6, 0),
        ANDI("andi", "d,s,i", OP_NUMBER, 7, 0),
        SLLI("slli", "d,s,h", OP_NUMBER, 1, 0),
        SRLI("srli", "d,s,h", OP_NUMBER, 5, 0),
        SRAI("srai", "d,s,h", OP_NUMBER, 5, G_OTHER),
        ADD("add", "d,s,t", OP_REGISTER, 0, 0),
        SLL("sll", "d,s,t", OP_REGISTER, 1, 0),
        SLT("slt", "d,s,t", OP_REGISTER, 2, 0),
        SLTU("sltu", "d,s,t", OP_REGISTER, 3, 0),
        XOR("xor", "d,s,t", OP_REGISTER, 4, 0),
        SRL("srl", "d,s,t", OP_REGISTER, 5, 0),
        OR("or", "d,s,t", OP_REGISTER, 6, 0),
        AND("and", "d,s,t", OP_REGISTER, 7, 0),
        SUB("sub", "d,s,t", OP_REGISTER, 0, G_OTHER),
        SRA("sra", "d,s,t", OP_REGISTER, 5, G_OTHER),
        DEAD("dead", "k,s,i", OP_TIMED, 0, 0),
        CYCLE("cycle", "d", OP_TIMED, 1, 0),
        HALTS("halt", "", HALT, 0, 0),
        WORD("word", "w", 0, 0, 0);

        final long key;
        final String pieces;
        final int bits;

        Mnemonic(String letters, String pieces, int op, int f, int g) {
            long sum = 0;
            for (int k = 0; k < letters.length(); k++) {
                sum = Tokens.withLetter(sum, letters.charAt(k));
            }
            this.key = sum;
            this.pieces = pieces;
            this.bits = op | (f << F_BIT) | (g << G_BIT);
        }
    }

    /** The text in pieces: each has a kind (a mark's kind is its character) and a value. */
    private static final class Tokens {
        static final char LINE_END = '\n';
        static final char LETTERS = 'a';
        static final char REGISTER = 'x';
        static final char NUMBER = '0';
        static final char WRONG = '?';
        // Above every bound, so that a number with too many digits fits nowhere.
        private static final long TOO_LARGE = 1L << 40;

        private final char[] kinds = new char[MOST_CHARACTERS + 1];
        private final long[] values = new long[MOST_CHARACTERS + 1];
        private final Text text;
        private int count;
        private int at;

        Tokens(Text text) {
            this.text = text;
        }

        /** A word of up to eight letters as one number: words with the same number are the same. */
        static long withLetter(long key, char letter) {
            return (key << 5) | (letter - 'a' + 1);
        }

        void split() {
            count = 0;
            at = 0;
            for (int guard = 0; guard < MOST_CHARACTERS && at < text.length; guard++) {
                char c = text.characters[at];
                if (isLetter(c)) {
                    takeLetters();
                } else if (isDigit(c) || c == '-') {
                    takeNumber(c == '-');
                } else {
                    takeMark(c);
                }
            }
            add(LINE_END, 0);
        }

        char kindAt(int k) {
            return k >= 0 && k < count ? kinds[k] : LINE_END;
        }

        long valueAt(int k) {
            return k >= 0 && k < count ? values[k] : 0;
        }

        int size() {
            return count;
        }

        private void takeMark(char c) {
            at++;
            if (c == '\n' || c == ';') {
                add(LINE_END, 0);
            } else if (c == ',' || c == '(' || c == ')' || c == ':') {
                add(c, 0);
            } else if (c != ' ') {
                add(WRONG, 0);
            }
        }

        private void takeLetters() {
            int first = at;
            long key = 0;
            while (at < text.length && isLetter(text.characters[at])) {
                key = withLetter(key, text.characters[at]);
                at++;
            }
            boolean isX = at - first == 1 && text.characters[first] == 'x';
            if (isX && at < text.length && isDigit(text.characters[at])) {
                takeRegister();
            } else {
                add(at - first > MOST_LETTERS ? WRONG : LETTERS, key);
            }
        }

        private void takeRegister() {
            int first = at;
            long k = takeDigits();
            add(at - first > 2 || k >= REGISTERS ? WRONG : REGISTER, k);
        }

        private void takeNumber(boolean negative) {
            if (negative) {
                at++;
            }
            int first = at;
            long value = takeDigits();
            add(at == first ? WRONG : NUMBER, negative ? -value : value);
        }

        private long takeDigits() {
            int first = at;
            long value = 0;
            while (at < text.length && isDigit(text.characters[at])) {
                value = at - first < MOST_DIGITS ? value * 10 + (text.characters[at] - '0') : TOO_LARGE;
                at++;
            }
            return value;
        }

        private void add(char kind, long value) {
            if (count < kinds.length) {
                kinds[count] = kind;
                values[count] = value;
                count++;
            }
        }

        private static boolean isLetter(char c) {
            return c >= 'a' && c <= 'z';
        }

        private static boolean isDigit(char c) {
            return c >= '0' && c <= '9';
        }
    }

    /** The labels of a text, each with the number of words ahead of it. */
    private static final class Labels {
        int count;
        private final long[] keys = new long[MOST_LABELS];
        private final int[] places = new int[MOST_LABELS];

        void add(long key, int place) {
            if (count < MOST_LABELS) {
                keys[count] = key;
                places[count] = place;
                count++;
            }
        }

        /** The place of a label, -1 when it is not there. */
        int find(long key) {
            for (int k = 0; k < count; k++) {
                if (keys[k] == key) {
                    return places[k];
                }
            }
            return -1;
        }
    }

    /** Makes words of a text, or finds its fault. */
    private static final class Assembler {
        final int[] words = new int[STORE_WORDS];
        int count;
        int faultKind;
        int faultLine;
        // Of each word: the label that it goes to (0 for none), and its line.
        private final long[] targets = new long[STORE_WORDS];
        private final int[] lines = new int[STORE_WORDS];
        private final Labels labels = new Labels();
        private final Tokens tokens;
        private int at;
        // What the line at hand has; a label or target of 0 is none.
        private long label;
        private boolean hasWord;
        private int word;
        private long target;
        private boolean malformed;
        private boolean misfit;

        Assembler(Text text) {
            tokens = new Tokens(text);
        }

        void read(int firstWord) {
            tokens.split();
            at = 0;
            count = 0;
            labels.count = 0;
            faultKind = NO_FAULT;
            faultLine = 0;
            for (int line = 0; at < tokens.size() && line <= MOST_CHARACTERS; line++) {
                readLine();
                int kind = faultOfLine(STORE_WORDS - firstWord);
                if (kind != NO_FAULT) {
                    setFault(kind, line);
                    return;
                }
                keepLine(line);
            }
            resolveTargets();
        }

        private void readLine() {
            label = 0;
            hasWord = false;
            word = 0;
            target = 0;
            malformed = false;
            misfit = false;
            if (tokens.kindAt(at) == Tokens.LETTERS && tokens.kindAt(at + 1) == ':') {
                label = tokens.valueAt(at);
                at += 2;
            }
            if (tokens.kindAt(at) == Tokens.LETTERS) {
                readInstruction(mnemonicOf(tokens.valueAt(at)));
            }
            if (tokens.kindAt(at) != Tokens.LINE_END) {
                malformed = true;
            }
            at++;
        }

        // In one line the kinds of fault go before one another in this order.
        private int faultOfLine(int room) {
            if (malformed) {
                return MALFORMED;
            }
            if (misfit) {
                return MISFIT;
            }
            if ((label != 0 && labels.count >= MOST_LABELS) || (hasWord && count >= room)) {
                return TOO_MANY;
            }
            return label != 0 && labels.find(label) >= 0 ? WRONG_LABEL : NO_FAULT;
        }

        private void keepLine(int line) {
            if (label != 0) {
                labels.add(label, count);
            }
            if (hasWord && count < STORE_WORDS) {
                words[count] = word;
                targets[count] = target;
                lines[count] = line;
                count++;
            }
        }

        private void setFault(int kind, int line) {
            faultKind = kind;
            faultLine = line;
        }

        private static int mnemonicOf(long key) {
            for (int k = 0; k < MNEMONICS.length; k++) {
                if (MNEMONICS[k].key == key) {
                    return k;
                }
            }
            return -1;
        }

        private void readInstruction(int mnemonic) {
            if (mnemonic < 0) {
                malformed = true;
                return;
            }
            at++;
            hasWord = true;
            word = MNEMONICS[mnemonic].bits;
            String pieces = MNEMONICS[mnemonic].pieces;
            for (int k = 0; k < pieces.length() && !malformed; k++) {
                readPiece(pieces.charAt(k));
            }
        }

        private void readPiece(char piece) {
            char kind = tokens.kindAt(at);
            long value = tokens.valueAt(at);
            if ((piece == 'b' || piece == 'j') && kind == Tokens.LETTERS) {
                target = value;
            } else if (kind == kindOf(piece)) {
                putPiece(piece, value);
            } else {
                malformed = true;
                return;
            }
            at++;
        }

        private static char kindOf(char piece) {
            switch (piece) {
                case ',':
                case '(':
                case ')':
                    return piece;
                case 'd':
                case 's':
                case 't':
                    return Tokens.REGISTER;
                default:
                    return Tokens.NUMBER;
            }
        }

        private void putPiece(char piece, long value) {
            switch (piece) {
                case 'd':
                    word |= (int) value << RD_BIT;
                    break;
                case 's':
                    word |= (int) value << RS_BIT;
                    break;
                case 't':
                    word |= (int) value << RT_BIT;
                    break;
                case 'i':
                    word |= fitted(value, -2048, 2047) << RT_BIT;
                    break;
                case 'm':
                    word |= Fields.bitsOfS(fitted(value, -2048, 2047));
                    break;
                case 'h':
                    word |= fitted(value, 0, 31) << RT_BIT;
                    break;
                case 'u':
                    word |= fitted(value, 0, 1048575) << F_BIT;
                    break;
                case 'k':
                    word |= fitted(value, 0, TIMERS - 1) << RD_BIT;
                    break;
                case 'w':
                    word |= fitted(value, -2147483648L, 4294967295L);
                    break;
                case 'b':
                    noteOdd(value);
                    word |= Fields.bitsOfB(fitted(value, -4096, 4094));
                    break;
                case 'j':
                    noteOdd(value);
                    word |= Fields.bitsOfJ(fitted(value, -1048576, 1048574));
                    break;
                default:
                    break;
            }
        }

        // A number that does not fit is noted only: the rest of the line may still be malformed.
        private int fitted(long value, long low, long high) {
            if (value < low || value > high) {
                misfit = true;
            }
            return (int) value;
        }

        private void noteOdd(long value) {
            if ((value & 1) != 0) {
                misfit = true;
            }
        }

        private void resolveTargets() {
            for (int k = 0; k < count; k++) {
                if (targets[k] == 0) {
                    continue;
                }
                int place = labels.find(targets[k]);
                if (place < 0) {
                    setFault(WRONG_LABEL, lines[k]);
                    return;
                }
                // No label is too far: the whole store is shorter than B and J reach.
                int distance = 4 * (place - k);
                boolean isJump = Fields.op(words[k]) == OP_JAL;
                words[k] |= isJump ? Fields.bitsOfJ(distance) : Fields.bitsOfB(distance);
            }
        }
    }
}
