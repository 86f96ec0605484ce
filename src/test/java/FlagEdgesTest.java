/** The sentences on flags, each with a test of its own at the values where a flag changes. */
public final class FlagEdgesTest {
    private static final int S = 128;
    private static final int Z = 64;
    private static final int H = 16;
    private static final int P = 4;
    private static final int N = 2;
    private static final int C = 1;
    private static final int ALL = S | Z | H | P | N | C;
    private static final Check check = new Check();

    public static void main(String[] args) {
        additions();
        additionsWithCarry();
        subtractions();
        subtractionsWithBorrow();
        comparisons();
        negations();
        logicals();
        steps();
        wordSums();
        wordSumsWithCarry();
        wordDifferencesWithBorrow();
        rotationsOfA();
        shifts();
        singleBits();
        inversion();
        carrySet();
        carryInverted();
        allElse();
        check.end();
    }

    private static ChainBoard ran(int af, int... code) {
        ChainBoard x = Program.of(code);
        x.set(0, af);
        x.run(1);
        return x;
    }

    /** Rows of A, the other, the result and the flags; the F before is given. */
    private static void each(String name, int code, int f, int[][] rows) {
        for (int[] row : rows) {
            ChainBoard x = ran(row[0] << 8 | f, code, row[1]);
            check.due(name + " " + row[0] + ", " + row[1], x.register(0), row[2] << 8 | row[3]);
        }
    }

    private static void additions() {
        check.by("ADD: S, Z of the result; H carry between bits 3 and 4, C out of bit 7; P overflow with signs; N 0");
        int[][] rows = {{0, 0, 0, Z}, {15, 0, 15, 0}, {15, 1, 16, H}, {8, 8, 16, H}, {16, 16, 32, 0},
            {127, 0, 127, 0}, {127, 1, 128, S | H | P}, {64, 64, 128, S | P}, {128, 0, 128, S},
            {128, 128, 0, Z | P | C},
            {255, 0, 255, S}, {255, 1, 0, Z | H | C}, {240, 16, 0, Z | C}, {255, 255, 254, S | H | C},
            {128, 127, 255, S}, {128, 255, 127, P | C}, {129, 127, 0, Z | H | C}};
        each("ADD", 0xc6, 0, rows);
        each("ADD with all flags", 0xc6, ALL, rows);
    }

    private static void additionsWithCarry() {
        check.by("ADC: as ADD, with C");
        int[][] with = {{0, 0, 1, 0}, {15, 0, 16, H}, {14, 1, 16, H}, {127, 0, 128, S | H | P}, {255, 0, 0, Z | H | C},
            {254, 0, 255, S}, {255, 255, 255, S | H | C}, {127, 128, 0, Z | H | C}, {128, 127, 0, Z | H | C},
            {0, 127, 128, S | H | P}, {128, 128, 1, P | C}, {0, 255, 0, Z | H | C}};
        each("ADC with C", 0xce, ALL, with);
        int[][] without = {{0, 0, 0, Z}, {15, 0, 15, 0}, {127, 0, 127, 0}, {255, 0, 255, S}, {255, 1, 0, Z | H | C}};
        each("ADC without C", 0xce, ALL & ~C, without);
    }

    private static final int[][] DIFFERENCES = {{0, 0, 0, Z | N}, {1, 1, 0, Z | N}, {16, 1, 15, H | N},
        {16, 16, 0, Z | N},
        {15, 15, 0, Z | N}, {0, 1, 255, S | H | N | C}, {0, 16, 240, S | N | C}, {128, 1, 127, H | P | N},
        {128, 0, 128, S | N}, {127, 255, 128, S | P | N | C}, {0, 128, 128, S | P | N | C},
        {0, 127, 129, S | H | N | C},
        {255, 255, 0, Z | N}, {255, 0, 255, S | N}, {0, 255, 1, H | N | C}, {128, 128, 0, Z | N},
        {128, 127, 1, H | P | N}};

    private static void subtractions() {
        check.by("SUB: S, Z of the result; H borrow between bits 3 and 4, C out of bit 7; P overflow with signs; N 1");
        each("SUB", 0xd6, 0, DIFFERENCES);
        each("SUB with all flags", 0xd6, ALL, DIFFERENCES);
    }

    private static void subtractionsWithBorrow() {
        check.by("SBC: as SUB, with C");
        int[][] with = {{0, 0, 255, S | H | N | C}, {1, 0, 0, Z | N}, {16, 0, 15, H | N}, {128, 0, 127, H | P | N},
            {0, 255, 0, Z | H | N | C}, {255, 255, 255, S | H | N | C}, {127, 255, 127, H | N | C},
            {0, 127, 128, S | H | N | C},
            {128, 127, 0, Z | H | P | N}, {127, 127, 255, S | H | N | C}, {127, 128, 254, S | P | N | C},
            {16, 15, 0, Z | H | N}};
        each("SBC with C", 0xde, ALL, with);
        each("SBC without C", 0xde, ALL & ~C, DIFFERENCES);
    }

    private static void comparisons() {
        check.by("CP is SUB without a result");
        for (int[] row : DIFFERENCES) {
            ChainBoard x = ran(row[0] << 8 | ALL, 0xfe, row[1]);
            check.due("CP " + row[0] + ", " + row[1], x.register(0), row[0] << 8 | row[3]);
        }
    }

    private static void negations() {
        check.by("ED 44 (as SUB from 0)");
        int[][] rows = {{0, 0, Z | N}, {1, 255, S | H | N | C}, {16, 240, S | N | C}, {127, 129, S | H | N | C},
            {128, 128, S | P | N | C}, {129, 127, H | N | C}, {255, 1, H | N | C}};
        for (int[] row : rows) {
            for (int f : new int[] {0, ALL}) {
                check.due("ED 44 of " + row[0], ran(row[0] << 8 | f, 0xed, 0x44).register(0), row[1] << 8 | row[2]);
            }
        }
    }

    private static void logicals() {
        check.by("AND, XOR, OR: S, Z; H 1 for AND, else 0; P parity (set when even); N 0, C 0");
        int[][] and = {{0, 255, 0, Z | H | P}, {255, 255, 255, S | H | P}, {128, 255, 128, S | H}, {1, 255, 1, H},
            {3, 255, 3, H | P}, {15, 240, 0, Z | H | P}};
        int[][] xor = {{0, 0, 0, Z | P}, {255, 255, 0, Z | P}, {255, 0, 255, S | P}, {128, 0, 128, S}, {1, 0, 1, 0},
            {1, 2, 3, P}};
        int[][] or = {{0, 0, 0, Z | P}, {255, 255, 255, S | P}, {128, 0, 128, S}, {1, 0, 1, 0}, {1, 2, 3, P}};
        for (int f : new int[] {0, ALL}) {
            each("AND", 0xe6, f, and);
            each("XOR", 0xee, f, xor);
            each("OR", 0xf6, f, or);
        }
    }

    private static void steps() {
        check.by("r + 1, r - 1: as ADD and SUB of 1, but C stays");
        int[][] up = {{0, 1, 0}, {15, 16, H}, {127, 128, S | H | P}, {128, 129, S}, {254, 255, S}, {255, 0, Z | H}};
        int[][] down = {{0, 255, S | H | N}, {1, 0, Z | N}, {16, 15, H | N}, {127, 126, N}, {128, 127, H | P | N},
            {129, 128, S | N}};
        for (int f : new int[] {0, C, ALL, ALL & ~C}) {
            for (int[] row : up) {
                check.due("A + 1 of " + row[0], ran(row[0] << 8 | f, 0x3c).register(0), row[1] << 8 | row[2] | f & C);
            }
            for (int[] row : down) {
                check.due("A - 1 of " + row[0], ran(row[0] << 8 | f, 0x3d).register(0), row[1] << 8 | row[2] | f & C);
            }
        }
    }

    /** HL and BC, then the result and the flags. */
    private static void eachWord(String name, int f, int[][] rows, int... code) {
        for (int[] row : rows) {
            ChainBoard x = Program.of(code);
            x.set(0, f);
            x.set(1, row[1]);
            x.set(3, row[0]);
            x.run(1);
            check.due(name + " " + row[0] + ", " + row[1] + ": HL", x.register(3), row[2]);
            check.due(name + " " + row[0] + ", " + row[1] + ": F", x.register(0), row[3]);
        }
    }

    private static void wordSums() {
        check.by("HL + rr: H between bits 11 and 12, C out of bit 15, N 0, others stay");
        int[][] clear = {{0, 0, 0, 0}, {0xfff, 0, 0xfff, 0}, {0xfff, 1, 0x1000, H}, {0x7fff, 1, 0x8000, H},
            {0xff, 1, 0x100, 0}, {0xffff, 1, 0, H | C}, {0xf000, 0x1000, 0, C}, {0x8000, 0x8000, 0, C}};
        eachWord("HL + BC", 0, clear, 0x09);
        int[][] set = new int[clear.length][];
        for (int i = 0; i < clear.length; i++) {
            set[i] = new int[] {clear[i][0], clear[i][1], clear[i][2], clear[i][3] | S | Z | P};
        }
        eachWord("HL + BC with all flags", ALL, set, 0x09);
    }

    private static void wordSumsWithCarry() {
        check.by("HL + rr + C: the same, with S, Z of all 16 bits, P overflow, N 0");
        int[][] with = {{0, 0, 1, 0}, {0xfff, 0, 0x1000, H}, {0x7fff, 0, 0x8000, S | H | P}, {0xffff, 0, 0, Z | H | C},
            {0xff, 0, 0x100, 0}, {0xffff, 0xffff, 0xffff, S | H | C}, {0x8000, 0x7fff, 0, Z | H | C},
            {0x8000, 0x8000, 1, P | C}, {0xff, 0xff00, 0, Z | H | C}};
        eachWord("with C", ALL, with, 0xed, 0x4a);
        int[][] without = {{0, 0, 0, Z}, {0x80, 0, 0x80, 0}, {0x8000, 0, 0x8000, S}, {0x8000, 0x8000, 0, Z | P | C},
            {0xff00, 0x100, 0, Z | H | C}, {0x100, 0, 0x100, 0}, {0x4000, 0x4000, 0x8000, S | P}};
        eachWord("without C", ALL & ~C, without, 0xed, 0x4a);
    }

    private static void wordDifferencesWithBorrow() {
        check.by("HL - rr - C: the same, with S, Z of all 16 bits, P overflow, N 1");
        int[][] with = {{0, 0, 0xffff, S | H | N | C}, {1, 0, 0, Z | N}, {0x1000, 0, 0xfff, H | N},
            {0x8000, 0, 0x7fff, H | P | N}, {0, 0xffff, 0, Z | H | N | C}, {0xffff, 0xffff, 0xffff, S | H | N | C},
            {0x7fff, 0xffff, 0x7fff, H | N | C}, {0x101, 0, 0x100, N}, {0x8000, 0x7fff, 0, Z | H | P | N}};
        eachWord("with C", ALL, with, 0xed, 0x42);
        int[][] without = {{0, 0, 0, Z | N}, {0, 1, 0xffff, S | H | N | C}, {0x1000, 1, 0xfff, H | N},
            {0x8000, 1, 0x7fff, H | P | N}, {0x7fff, 0xffff, 0x8000, S | P | N | C}, {0x100, 0, 0x100, N},
            {0x1234, 0x1234, 0, Z | N}, {0, 0x8000, 0x8000, S | P | N | C}, {0x80, 0, 0x80, N}};
        eachWord("without C", ALL & ~C, without, 0xed, 0x42);
    }

    private static void rotationsOfA() {
        check.by("RLC A .. RR A: C is the bit that went out, H 0, N 0, others stay");
        // Code, A, the C before, A behind, the C behind.
        int[][] rows = {{0x07, 0x80, 0, 0x01, 1}, {0x07, 0x01, 1, 0x02, 0}, {0x07, 0x00, 1, 0x00, 0},
            {0x07, 0xff, 0, 0xff, 1},
            {0x0f, 0x01, 0, 0x80, 1}, {0x0f, 0x80, 1, 0x40, 0}, {0x0f, 0x00, 1, 0x00, 0}, {0x0f, 0xff, 0, 0xff, 1},
            {0x17, 0x80, 0, 0x00, 1}, {0x17, 0x00, 1, 0x01, 0}, {0x17, 0xff, 1, 0xff, 1}, {0x17, 0xff, 0, 0xfe, 1},
            {0x1f, 0x01, 0, 0x00, 1}, {0x1f, 0x00, 1, 0x80, 0}, {0x1f, 0xff, 1, 0xff, 1}, {0x1f, 0xff, 0, 0x7f, 1}};
        for (int[] row : rows) {
            for (int f : new int[] {0, ALL & ~C}) {
                check.due("code " + row[0] + " of " + row[1] + " with C " + row[2],
                        ran(row[1] << 8 | f | row[2], row[0]).register(0), row[3] << 8 | f & (S | Z | P) | row[4]);
            }
        }
    }

    private static void shifts() {
        check.by("Those behind CB 8o: the same C, H, N, and S, Z, P parity (RLC, RRC: what goes out comes in; "
                + "RL, RR: C comes in; SLA, SRL: 0; SRA: the sign stays)");
        // Operation, byte, the C before, the byte behind, the flags behind.
        int[][] rows = {{0, 0x80, 0, 0x01, C}, {0, 0x00, 1, 0x00, Z | P}, {0, 0x40, 0, 0x80, S},
            {0, 0xff, 0, 0xff, S | P | C},
            {1, 0x01, 0, 0x80, S | C}, {1, 0x00, 1, 0x00, Z | P}, {1, 0x80, 1, 0x40, 0}, {1, 0xff, 0, 0xff, S | P | C},
            {2, 0x80, 0, 0x00, Z | P | C}, {2, 0x80, 1, 0x01, C}, {2, 0x7f, 1, 0xff, S | P},
            {3, 0x01, 0, 0x00, Z | P | C}, {3, 0x01, 1, 0x80, S | C}, {3, 0xfe, 1, 0xff, S | P},
            {4, 0x80, 1, 0x00, Z | P | C}, {4, 0x40, 1, 0x80, S}, {4, 0xff, 1, 0xfe, S | C},
            {5, 0x01, 1, 0x00, Z | P | C}, {5, 0x80, 0, 0xc0, S | P}, {5, 0xff, 0, 0xff, S | P | C},
            {5, 0x7f, 1, 0x3f, P | C},
            {7, 0x01, 1, 0x00, Z | P | C}, {7, 0x80, 1, 0x40, 0}, {7, 0xff, 1, 0x7f, C}};
        for (int[] row : rows) {
            for (int f : new int[] {0, ALL & ~C}) {
                ChainBoard x = ran(row[1] << 8 | f | row[2], 0xcb, 8 * row[0] + 7);
                check.due("operation " + row[0] + " of " + row[1] + " with C " + row[2], x.register(0),
                        row[3] << 8 | row[4]);
            }
        }
    }

    private static void singleBits() {
        check.by("BIT: Z is set when the bit is 0, H 1, N 0, S set when it is bit 7 and 1, P as Z, C stays");
        for (int b = 0; b < 8; b++) {
            for (int f : new int[] {0, C, ALL, ALL & ~C}) {
                int ones = H | (b == 7 ? S : 0) | f & C;
                int none = H | Z | P | f & C;
                check.due("bit " + b + " alone", ran(1 << b + 8 | f, 0xcb, 0x47 + 8 * b).register(0),
                        1 << b + 8 | ones);
                check.due("bit " + b + " of 255", ran(0xff00 | f, 0xcb, 0x47 + 8 * b).register(0), 0xff00 | ones);
                check.due("bit " + b + " of 0", ran(f, 0xcb, 0x47 + 8 * b).register(0), none);
                int others = 0xff00 ^ 1 << b + 8;
                check.due("all but bit " + b, ran(others | f, 0xcb, 0x47 + 8 * b).register(0), others | none);
            }
        }
    }

    private static void inversion() {
        check.by("Inverted A: H 1, N 1");
        for (int a : new int[] {0, 1, 127, 128, 255}) {
            check.due("of " + a, ran(a << 8, 0x2f).register(0), (a ^ 255) << 8 | H | N);
            check.due("of " + a + " with all flags", ran(a << 8 | ALL, 0x2f).register(0), (a ^ 255) << 8 | ALL);
        }
    }

    private static void carrySet() {
        check.by("C set: H 0, N 0");
        check.due("of none", ran(0, 0x37).register(0), C);
        check.due("of all", ran(ALL, 0x37).register(0), S | Z | P | C);
    }

    private static void carryInverted() {
        check.by("C inverted: H is the old C, N 0");
        check.due("of none", ran(0, 0x3f).register(0), C);
        check.due("of C", ran(C, 0x3f).register(0), H);
        check.due("of H and N", ran(H | N, 0x3f).register(0), C);
        check.due("of all", ran(ALL, 0x3f).register(0), S | Z | P | H);
    }

    private static boolean changesFlags(int code) {
        if (code < 0x40) {
            // r + 1, r - 1, HL + rr, and the eight on A; 27 is none.
            return code % 8 == 4 || code % 8 == 5 || code % 16 == 9 || code % 8 == 7 || code == 0x08;
        }
        return code >= 0x80 && code < 0xc0 || code >= 0xc0 && code % 8 == 6 || code == 0xf1 || code == 0xcb
                || code == 0xed;
    }

    private static void allElse() {
        check.by("All else changes no flag (but POP AF and the exchange)");
        for (int f : new int[] {0, ALL}) {
            for (int code = 0; code < 256; code++) {
                if (!changesFlags(code)) {
                    check.due("F behind " + code, ran(f, code, 0x55, 0x01).register(0) & 255, f);
                }
            }
            for (int code = 0x80; code < 256; code++) {
                check.due("F behind CB " + code, ran(f, 0xcb, code).register(0) & 255, f);
            }
            for (int code : new int[] {0x47, 0x4d, 0x56, 0x5e}) {
                check.due("F behind ED " + code, ran(f, 0xed, code).register(0) & 255, f);
            }
            ChainBoard x = Devices.prepared(0xfb, 0x00);
            x.set(0, f);
            Devices.ask(x, 0);
            Program.steps(x, 2);
            check.due("F behind an acknowledgement", x.register(0), f);
        }
        ChainBoard x = ran(0, 0x08);
        check.due("the exchange", x.register(4), 0);
        x = Program.of(0x08);
        x.set(4, ALL);
        x.run(1);
        check.due("the exchange", x.register(0), ALL);
        x = Program.of(0xf1);
        x.set(8, 0x200);
        x.poke(0x200, ALL);
        x.run(1);
        check.due("POP AF", x.register(0), ALL);
    }
}
