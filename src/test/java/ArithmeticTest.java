/** Results and flags of every operation, against sums that are made bit by bit. */
public final class ArithmeticTest {
    private static final int S = 128;
    private static final int Z = 64;
    private static final int H = 16;
    private static final int P = 4;
    private static final int N = 2;
    private static final int C = 1;
    private static final Check check = new Check();

    public static void main(String[] args) {
        for (int operation = 0; operation < 8; operation++) {
            operations(operation);
        }
        stepsByOne();
        negation();
        words();
        rotationsOfA();
        shifts();
        singleBits();
        carryAndInversion();
        check.end();
    }

    /** A sum of so many bits: result, then the carry out of each bit from 0 on. */
    private static int[] sum(int a, int b, int carry, int bits) {
        int[] answer = new int[bits + 1];
        for (int i = 0; i < bits; i++) {
            int ones = (a >> i & 1) + (b >> i & 1) + carry;
            answer[0] |= (ones & 1) << i;
            carry = ones >> 1;
            answer[i + 1] = carry;
        }
        return answer;
    }

    private static int[] added(int a, int b, int carry, int bits) {
        int[] s = sum(a, b, carry, bits);
        int flags = signZero(s[0], bits);
        flags |= s[bits - 4] == 1 ? H : 0;
        flags |= s[bits] == 1 ? C : 0;
        flags |= s[bits] != s[bits - 1] ? P : 0;
        return new int[] {s[0], flags};
    }

    /** a - b - c is a + not b + not c, with each carry inverted. */
    private static int[] subtracted(int a, int b, int borrow, int bits) {
        int[] s = sum(a, ~b, 1 - borrow, bits);
        int flags = signZero(s[0], bits) | N;
        flags |= s[bits - 4] == 0 ? H : 0;
        flags |= s[bits] == 0 ? C : 0;
        flags |= s[bits] != s[bits - 1] ? P : 0;
        return new int[] {s[0], flags};
    }

    private static int signZero(int result, int bits) {
        return ((result >> (bits - 1) & 1) == 1 ? S : 0) | (result == 0 ? Z : 0);
    }

    private static int parity(int v) {
        boolean even = true;
        for (int i = 0; i < 8; i++) {
            even ^= (v >> i & 1) == 1;
        }
        return even ? P : 0;
    }

    private static int[] logical(int result, int half) {
        return new int[] {result, signZero(result, 8) | parity(result) | half};
    }

    private static int[] wanted(int operation, int a, int b, int carry) {
        switch (operation) {
            case 0: return added(a, b, 0, 8);
            case 1: return added(a, b, carry, 8);
            case 2: return subtracted(a, b, 0, 8);
            case 3: return subtracted(a, b, carry, 8);
            case 4: return logical(a & b, H);
            case 5: return logical(a ^ b, 0);
            case 6: return logical(a | b, 0);
            default: return new int[] {a, subtracted(a, b, 0, 8)[1]};
        }
    }

    private static void operations(int operation) {
        for (int a = 0; a < 256; a++) {
            for (int b = 0; b < 256; b++) {
                if (b % 32 == 0) {
                    fresh(0x80 + 8 * operation + b % 3, 0);
                }
                for (int f = 0; f < 256; f += 255) {
                    board.set(0, a << 8 | f);
                    board.set(1 + b % 3 / 2, b << 8 | b);
                    board.set(9, 0);
                    board.poke(0, 0x80 + 8 * operation + b % 3);
                    board.run(1);
                    int[] want = wanted(operation, a, b, f & 1);
                    check.due("operation " + operation + " of " + a + ", " + b + ", F " + f,
                            board.register(0), want[0] << 8 | want[1]);
                }
            }
            immediateAndMemory(operation, a, a * 37 + 11 & 255);
        }
    }

    private static ChainBoard board;

    private static void fresh(int... bytes) {
        board = Program.of(bytes);
    }

    private static void immediateAndMemory(int operation, int a, int b) {
        int[] want = wanted(operation, a, b, 1);
        fresh(0xc6 + 8 * operation, b);
        board.set(0, a << 8 | 0xff);
        board.run(1);
        check.due("operation " + operation + " of n", board.register(0), want[0] << 8 | want[1]);
        fresh(0x86 + 8 * operation);
        board.set(0, a << 8 | 0xff);
        board.set(3, 0x1234);
        board.poke(0x234, b);
        board.run(1);
        check.due("operation " + operation + " of M", board.register(0), want[0] << 8 | want[1]);
        int[] own = wanted(operation, a, a, 1);
        fresh(0x87 + 8 * operation);
        board.set(0, a << 8 | 0xff);
        board.run(1);
        check.due("operation " + operation + " of A", board.register(0), own[0] << 8 | own[1]);
    }

    private static void stepsByOne() {
        for (int v = 0; v < 256; v++) {
            for (int f = 0; f < 256; f += 255) {
                int[] up = added(v, 1, 0, 8);
                int[] down = subtracted(v, 1, 0, 8);
                oneStep(0x04, v, f, up);
                oneStep(0x05, v, f, down);
            }
        }
    }

    private static void oneStep(int code, int v, int f, int[] want) {
        int flags = want[1] & ~C | f & C;
        ChainBoard x = Program.of(code, code | 0x30);
        x.set(0, f);
        x.set(1, v << 8 | 0x55);
        x.set(3, 0x3ff);
        x.poke(0x3ff, v);
        x.run(1);
        check.due("step " + code + " of B", x.register(1), want[0] << 8 | 0x55);
        check.due("step " + code + " of " + v + ": F", x.register(0), flags);
        x.set(0, f);
        x.run(1);
        check.due("step " + code + " of M", x.peek(0x3ff), want[0]);
        check.due("step " + code + " of M " + v + ": F", x.register(0), flags);
    }

    private static void negation() {
        for (int a = 0; a < 256; a++) {
            ChainBoard x = Program.of(0xed, 0x44);
            x.set(0, a << 8 | 0xff);
            x.run(1);
            int[] want = subtracted(0, a, 0, 8);
            check.due("ED 44 of " + a, x.register(0), want[0] << 8 | want[1]);
        }
    }

    private static void words() {
        int[] values = {0, 1, 2, 0xff, 0x100, 0x7ff, 0x800, 0xfff, 0x1000,
                0x7fff, 0x8000, 0x8001, 0xf000, 0xfffe, 0xffff, 0x1234, 0xabcd};
        for (int a : values) {
            for (int b : values) {
                for (int f = 0; f < 256; f += 255) {
                    for (int rr = 0; rr < 4; rr++) {
                        int other = rr == 2 ? a : b;
                        int[] plain = added(a, other, 0, 16);
                        int kept = f & (S | Z | P) | plain[1] & (H | C);
                        oneWord(new int[] {0x09 + 16 * rr}, rr, a, other, f, plain[0], kept);
                        int[] up = added(a, other, f & 1, 16);
                        oneWord(new int[] {0xed, 0x4a + 16 * rr}, rr, a, other, f, up[0], up[1]);
                        int[] down = subtracted(a, other, f & 1, 16);
                        oneWord(new int[] {0xed, 0x42 + 16 * rr}, rr, a, other, f, down[0], down[1]);
                    }
                }
            }
        }
    }

    private static void oneWord(int[] code, int rr, int hl, int other, int f, int want, int flags) {
        ChainBoard x = Program.of(code);
        x.set(0, 0x9900 | f);
        x.set(rr == 3 ? 8 : rr + 1, other);
        x.set(3, hl);
        x.run(1);
        String name = Integer.toHexString(code[code.length - 1]) + " of " + hl + ", " + other + ", F " + f;
        check.due(name, x.register(3), want);
        check.due(name + ": AF", x.register(0), 0x9900 | flags);
    }

    /** The result and the bit that went out, for RLC RRC RL RR SLA SRA, none, SRL. */
    private static int[] shifted(int o, int v, int carry) {
        int low = v & 1;
        int top = v / 128;
        switch (o) {
            case 0: return new int[] {v * 2 % 256 + top, top};
            case 1: return new int[] {v / 2 + 128 * low, low};
            case 2: return new int[] {v * 2 % 256 + carry, top};
            case 3: return new int[] {v / 2 + 128 * carry, low};
            case 4: return new int[] {v * 2 % 256, top};
            case 5: return new int[] {v / 2 + 128 * top, low};
            default: return new int[] {v / 2, low};
        }
    }

    private static void rotationsOfA() {
        for (int o = 0; o < 4; o++) {
            for (int v = 0; v < 256; v++) {
                for (int f = 0; f < 256; f += 51) {
                    ChainBoard x = Program.of(0x07 + 8 * o);
                    x.set(0, v << 8 | f);
                    x.run(1);
                    int[] want = shifted(o, v, f & 1);
                    check.due("rotation " + o + " of A " + v + ", F " + f, x.register(0),
                            want[0] << 8 | f & (S | Z | P) | want[1]);
                }
            }
        }
    }

    private static void shifts() {
        for (int o = 0; o < 8; o++) {
            for (int v = 0; v < 256 && o != 6; v++) {
                for (int f = 0; f < 256; f += 255) {
                    int[] want = shifted(o, v, f & 1);
                    int flags = signZero(want[0], 8) | parity(want[0]) | want[1];
                    ChainBoard x = Program.of(0xcb, 8 * o + 3, 0xcb, 8 * o + 6);
                    x.set(0, f);
                    x.set(2, v);
                    x.set(3, 0x700);
                    x.poke(0x300, v);
                    x.run(1);
                    check.due("shift " + o + " of E " + v, x.register(2), want[0]);
                    check.due("shift " + o + " of E " + v + ": F", x.register(0), flags);
                    x.set(0, f);
                    x.run(1);
                    check.due("shift " + o + " of M " + v, x.peek(0x300), want[0]);
                    check.due("shift " + o + " of M " + v + ": F", x.register(0), flags);
                }
            }
        }
    }

    private static void singleBits() {
        for (int b = 0; b < 8; b++) {
            for (int v : new int[] {0, 255, 1 << b, 255 ^ 1 << b}) {
                for (int f = 0; f < 256; f += 255) {
                    oneBit(b, v, f, 2, 6);
                }
            }
        }
    }

    private static void oneBit(int b, int v, int f, int q, int m) {
        boolean one = (v >> b & 1) == 1;
        int flags = H | f & C | (one ? 0 : Z | P) | (one && b == 7 ? S : 0);
        for (int reached : new int[] {q, m}) {
            int[] codes = {0x40, 0x80, 0xc0};
            int[] wantValue = {v, v & ~(1 << b), v | 1 << b};
            int[] wantFlags = {flags, f & 0xd7, f & 0xd7};
            for (int i = 0; i < 3; i++) {
                ChainBoard x = Program.of(0xcb, codes[i] + 8 * b + reached);
                x.set(0, f);
                x.set(2, v << 8);
                x.set(3, 0x0155);
                x.poke(0x155, v);
                x.run(1);
                int got = reached == m ? x.peek(0x155) : x.register(2) >> 8;
                String name = "CB " + codes[i] + " bit " + b + " of " + v;
                check.due(name, got, wantValue[i]);
                check.due(name + ": F", x.register(0), wantFlags[i]);
            }
        }
    }

    private static void carryAndInversion() {
        for (int f = 0; f < 256; f += 17) {
            int rest = f & (S | Z | P);
            one(0x2f, 0x3500 | f, 0xca00 | rest | f & C | H | N);
            one(0x37, 0x3500 | f, 0x3500 | rest | C);
            one(0x3f, 0x3500 | f, 0x3500 | rest | ((f & C) == 0 ? C : H));
        }
    }

    private static void one(int code, int af, int want) {
        ChainBoard x = Program.of(code);
        x.set(0, af);
        x.run(1);
        check.due(Integer.toHexString(code) + " of " + af, x.register(0), want);
    }
}
