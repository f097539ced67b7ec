import java.util.ArrayList;
import java.util.List;
import java.util.Random;

/**
 * Programs by chance (from fixed seeds), beside a model that is written anew from the document: it gathers numbers bit
 * by bit as the document lists them, holds memory as bytes, and finds slots by counting.
 */
public final class RandomProgramsTest {
    private static final Check CHECK = new Check();
    // So many words of a program that its pokes and the questions behind it stay within an object's 512 calls.
    private static final int WORDS = 40;

    public static void main(String[] args) {
        for (int seed = 0; seed < 6000; seed++) {
            oneObject(new Random(seed), seed);
        }
        CHECK.end();
    }

    private static void oneObject(Random random, int seed) {
        int wheel = random.nextInt(10);
        TimedThreads x = new TimedThreads(wheel);
        Model model = new Model(wheel);
        for (int thread = 0; thread < 4; thread++) {
            for (int word = 0; word < WORDS; word++) {
                int value = randomWord(random);
                x.poke(thread, word, value);
                model.poke(thread, word, value);
            }
        }
        for (int call = 0; call < 60; call++) {
            int thread = random.nextInt(4);
            switch (random.nextInt(4)) {
                case 0:
                    int low = random.nextInt(65);
                    int high = low + random.nextInt(65 - low);
                    x.part(thread, low, high);
                    model.low[thread] = low;
                    model.high[thread] = high;
                    break;
                case 1:
                    int address = random.nextInt(20) == 0 ? random.nextInt(600) - 20 : 4 * random.nextInt(WORDS);
                    x.start(thread, address);
                    model.start(thread, address);
                    break;
                default:
                    int n = random.nextInt(80);
                    CHECK.due("run, seed " + seed, x.run(n), model.run(n));
                    break;
            }
        }
        CHECK.due("now", x.now(), model.cycle);
        compareThread(x, model, seed % 4, "seed " + seed + ", thread " + seed % 4);
        for (int word = 0; word < 64; word++) {
            CHECK.due("seed " + seed + " shared " + word, x.shared(word), model.word(model.shared, 4 * word));
        }
    }

    private static int randomWord(Random random) {
        int[] ops = {55, 111, 103, 99, 3, 35, 19, 51, 11, 3, 35, 19, 19, 99};
        int op = ops[random.nextInt(ops.length)];
        int f = random.nextInt(8);
        int rd = random.nextInt(random.nextInt(10) == 0 ? 32 : 16);
        int rs = random.nextInt(random.nextInt(10) == 0 ? 32 : 16);
        int rt = random.nextInt(random.nextInt(10) == 0 ? 32 : 16);
        int g = random.nextInt(128);
        if (op == 55) {
            return random.nextInt(2) == 0 ? 55 | rd << 7 | 1 << 12 : 55 | rd << 7 | random.nextInt() << 12;
        }
        if (op == 111) {
            // Short jumps forth and back, so that some land in the store.
            int distance = 2 * (random.nextInt(60) - 30);
            return 111 | rd << 7 | (distance < 0 ? 0x800ff000 | 1 << 20 : 0) | (distance >> 1 & 1023) << 21;
        }
        if (op == 99 || op == 35) {
            g = random.nextInt(3) == 0 ? g : random.nextInt(4);
        }
        if (op == 51 || op == 19 && (f == 1 || f == 5)) {
            g = random.nextInt(8) == 0 ? g : 32 * random.nextInt(2);
        }
        if (op == 3 || op == 103 || op == 11) {
            g = random.nextInt(3) == 0 ? g : random.nextInt(8);
            rd = op == 11 && f == 0 ? random.nextInt(5) : rd;
            rt &= random.nextInt(2) == 0 ? 28 : 31;
        }
        if (op == 3 || op == 35 || op == 11) {
            f = random.nextInt(6) == 0 ? f : new int[] {0, 1, 2, 4}[random.nextInt(4)];
        }
        return random.nextInt(300) == 0 ? 115 : op | rd << 7 | f << 12 | rs << 15 | rt << 20 | g << 25;
    }

    private static void compareThread(TimedThreads x, Model model, int thread, String where) {
        for (int k = 0; k < 16; k++) {
            CHECK.due(where + " register " + k, x.register(thread, k), model.registers[thread][k]);
        }
        for (int word = 0; word < 128; word++) {
            CHECK.due(where + " peek " + word, x.peek(thread, word), model.peek(thread, word));
        }
        int[] timers = model.timers[thread];
        List<int[]> done = model.done.get(thread);
        int[] states = {model.status[thread], model.address[thread], done.size(), model.ready[thread], timers[0], timers[1],
            timers[2], timers[3]};
        for (int what = 0; what < 8; what++) {
            CHECK.due(where + " state " + what, x.state(thread, what), states[what]);
        }
        for (int k = 0; k < 16; k++) {
            for (int what = 0; what < 3; what++) {
                int want = k < done.size() ? done.get(done.size() - 1 - k)[what] : -1;
                CHECK.due(where + " trace " + k, x.trace(thread, k, what), want);
            }
        }
    }

    private static final class Model {
        final int wheel;
        final int[][] registers = new int[4][16];
        final int[][] timers = new int[4][4];
        final byte[][] store = new byte[4][512];
        final byte[] shared = new byte[256];
        final int[] low = new int[4];
        final int[] high = new int[4];
        final int[] address = new int[4];
        final int[] status = new int[4];
        final int[] ready = new int[4];
        final List<List<int[]>> done = new ArrayList<>();
        int cycle;

        Model(int wheel) {
            this.wheel = wheel < 1 ? 1 : wheel > 8 ? 8 : wheel;
            for (int thread = 0; thread < 4; thread++) {
                done.add(new ArrayList<>());
            }
        }

        void poke(int thread, int word, int value) {
            for (int k = 0; k < 4; k++) {
                store[thread][4 * word + k] = (byte) (value >> 8 * k);
            }
        }

        int peek(int thread, int word) {
            return word(store[thread], 4 * word);
        }

        int word(byte[] bytes, int at) {
            int value = 0;
            for (int k = 3; k >= 0; k--) {
                value = value * 256 + (bytes[at + k] & 255);
            }
            return value;
        }

        void start(int thread, int at) {
            status[thread] = 1;
            address[thread] = at;
            ready[thread] = cycle;
        }

        int run(int n) {
            int count = 0;
            for (int k = 0; k < n; k++, cycle++) {
                int thread = cycle % 4;
                if (status[thread] == 1 && cycle >= ready[thread]) {
                    count += step(thread);
                }
            }
            return count;
        }

        /** Bits of a word, listed from the lowest of the number on (-1 is a 0 bit), the last one being the sign. */
        static int gather(int word, int... bits) {
            int value = 0;
            for (int k = 0; k < bits.length; k++) {
                if (bits[k] >= 0 && (word >> bits[k] & 1) == 1) {
                    value += k == bits.length - 1 ? -(1 << k) : 1 << k;
                }
            }
            return value;
        }

        private int step(int t) {
            int pc = address[t];
            int next;
            try {
                next = instruction(t, pc);
            } catch (IllegalStateException e) {
                status[t] = 3;
                return 0;
            }
            if (next == Integer.MIN_VALUE + 1) {
                return 0;
            }
            done.get(t).add(new int[] {pc, cycle, retires});
            ready[t] = retires;
            address[t] = next;
            return 1;
        }

        private int retires;

        private static void need(boolean holds) {
            if (!holds) {
                throw new IllegalStateException();
            }
        }

        private int instruction(int t, int pc) {
            need(pc % 4 == 0 && pc >= 0 && pc <= 508);
            int word = word(store[t], pc);
            int[] x = registers[t];
            int op = word & 127;
            int rd = word >> 7 & 31;
            int f = word >> 12 & 7;
            int rs = word >> 15 & 31;
            int rt = word >> 20 & 31;
            int g = word >> 25 & 127;
            int i = gather(word, 20, 21, 22, 23, 24, 25, 26, 27, 28, 29, 30, 31);
            int s = gather(word, 7, 8, 9, 10, 11, 25, 26, 27, 28, 29, 30, 31);
            int b = gather(word, -1, 8, 9, 10, 11, 25, 26, 27, 28, 29, 30, 7, 31);
            int j = gather(word, -1, 21, 22, 23, 24, 25, 26, 27, 28, 29, 30, 20, 12, 13, 14, 15, 16, 17, 18, 19, 31);
            int next = pc + 4;
            int value = 0;
            retires = cycle + 4;
            if (op == 55) {
                need(rd < 16);
                value = word / 4096 * 4096 - (word < 0 && word % 4096 != 0 ? 4096 : 0);
            } else if (op == 111) {
                need(rd < 16);
                value = next;
                next = pc + j;
            } else if (op == 103) {
                need(f == 0 && rd < 16 && rs < 16);
                value = next;
                next = x[rs] + i;
                next -= next & 1;
            } else if (op == 99) {
                need(rs < 16 && rt < 16);
                long p = f >= 6 ? x[rs] & 0xffffffffL : x[rs];
                long q = f >= 6 ? x[rt] & 0xffffffffL : x[rt];
                need(f != 2 && f != 3);
                boolean so = f < 2 ? p == q : p < q;
                next = so == (f % 2 == 0) ? pc + b : next;
                rd = 0;
            } else if (op == 3) {
                need((f == 0 || f == 2 || f == 4) && rd < 16 && rs < 16);
                byte[] bytes = bytesAt(t, x[rs] + i, f == 2);
                int at = x[rs] + i & (bytes == shared ? 255 : 511);
                value = f == 2 ? word(bytes, at) : f == 0 ? bytes[at] : bytes[at] & 255;
            } else if (op == 35) {
                need((f == 0 || f == 2) && rt < 16 && rs < 16);
                byte[] bytes = bytesAt(t, x[rs] + s, f == 2);
                int at = x[rs] + s & (bytes == shared ? 255 : 511);
                for (int k = 0; k < (f == 2 ? 4 : 1); k++) {
                    bytes[at + k] = (byte) (x[rt] >>> 8 * k);
                }
                rd = 0;
            } else if (op == 19) {
                need(rd < 16 && rs < 16);
                need(f != 1 || g == 0);
                need(f != 5 || g == 0 || g == 32);
                value = alu(f, f == 5 && g == 32, x[rs], f == 1 || f == 5 ? rt : i);
            } else if (op == 51) {
                need(rd < 16 && rs < 16 && rt < 16);
                need(g == 0 || g == 32 && (f == 0 || f == 5));
                value = alu(f, g == 32, x[rs], f == 1 || f == 5 ? x[rt] & 31 : x[rt]);
            } else if (op == 11 && f == 1) {
                need(rd < 16);
                value = cycle;
            } else if (op == 11) {
                need(f == 0 && rd < 4 && rs < 16);
                if (cycle < timers[t][rd]) {
                    return Integer.MIN_VALUE + 1;
                }
                long due = (long) cycle + x[rs] + i;
                timers[t][rd] = due < cycle ? cycle : due > 2147483647L ? 2147483647 : (int) due;
                rd = 0;
            } else {
                need(word == 115);
                status[t] = 2;
                rd = 0;
            }
            if (rd > 0) {
                x[rd] = value;
            }
            return next;
        }

        private byte[] bytesAt(int t, int at, boolean wide) {
            need(!wide || at % 4 == 0);
            if (at >= 0 && at < 512) {
                return store[t];
            }
            need(at >= 4096 && (at - 4096) / 4 >= low[t] && (at - 4096) / 4 < high[t]);
            int b = cycle;
            while (b % (4 * wheel) != wheel * t) {
                b++;
            }
            retires = b + wheel;
            return shared;
        }

        private static int alu(int f, boolean other, int a, int b) {
            long ua = a & 0xffffffffL;
            long ub = b & 0xffffffffL;
            switch (f) {
                case 0:
                    return (int) (other ? ua - ub : ua + ub);
                case 1:
                    return (int) (ua << b);
                case 2:
                    return a < b ? 1 : 0;
                case 3:
                    return ua < ub ? 1 : 0;
                case 4:
                    return a ^ b;
                case 5:
                    return (int) (other ? (long) a >> b : ua >> b);
                case 6:
                    return a | b;
                default:
                    return a & b;
            }
        }
    }
}
