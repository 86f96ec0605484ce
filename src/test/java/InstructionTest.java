/** What the instructions that do not compute do; none of them changes a flag but where it is said. */
public final class InstructionTest {
    private static final Check check = new Check();

    public static void main(String[] args) {
        moves();
        immediates();
        wordLoads();
        wordSteps();
        stack();
        stackWraps();
        transfers();
        goes();
        relatives();
        counting();
        calls();
        conditions();
        restarts();
        exchanges();
        copies();
        copiesOverItself();
        copiesOverTheEnd();
        special();
        addressesWrap();
        ports();
        outReachesItsOwnAlone();
        check.end();
    }

    /** B C D E H L M A hold 11 12 13 14 01 16 (at 0116) 18, AF' .. HL' 2x. */
    private static ChainBoard filled(int... code) {
        ChainBoard x = Program.of(code);
        x.set(0, 0x18d7);
        x.set(1, 0x1112);
        x.set(2, 0x1314);
        x.set(3, 0x0116);
        x.set(4, 0x2022);
        x.set(5, 0x2425);
        x.set(6, 0x2627);
        x.set(7, 0x2829);
        x.set(8, 0x0200);
        x.poke(0x116, 0x17);
        return x;
    }

    private static int reg(ChainBoard x, int r) {
        switch (r) {
            case 6: return x.peek(0x116);
            case 7: return x.register(0) >> 8;
            default:
                int pair = x.register(1 + r / 2);
                return r % 2 == 0 ? pair >> 8 : pair & 255;
        }
    }

    private static final int[] VALUES = {0x11, 0x12, 0x13, 0x14, 0x01, 0x16, 0x17, 0x18};

    private static void moves() {
        for (int to = 0; to < 8; to++) {
            for (int from = 0; from < 8; from++) {
                if (to == 6 && from == 6) {
                    continue;
                }
                ChainBoard x = filled(0x40 + 8 * to + from);
                x.run(1);
                for (int r = 0; r < 8; r++) {
                    check.due("move " + from + " to " + to + ": " + r, reg(x, r), VALUES[r == to ? from : r]);
                }
                check.due("F", x.register(0) & 255, 0xd7);
            }
        }
    }

    private static void immediates() {
        for (int to = 0; to < 8; to++) {
            ChainBoard x = filled(0x06 + 8 * to, 0xa9);
            x.run(1);
            for (int r = 0; r < 8; r++) {
                check.due("n to " + to + ": " + r, reg(x, r), r == to ? 0xa9 : VALUES[r]);
            }
        }
    }

    private static int rr(ChainBoard x, int rr) {
        return x.register(rr == 3 ? 8 : rr + 1);
    }

    private static void wordLoads() {
        int[] before = {0x1112, 0x1314, 0x0116, 0x0200};
        for (int to = 0; to < 4; to++) {
            ChainBoard x = filled(0x01 + 16 * to, 0xcd, 0xab);
            x.run(1);
            for (int r = 0; r < 4; r++) {
                check.due("nn to " + to + ": " + r, rr(x, r), r == to ? 0xabcd : before[r]);
            }
        }
    }

    private static void wordSteps() {
        for (int r = 0; r < 4; r++) {
            for (int v : new int[] {0, 0xff, 0x1234, 0xff00, 0xffff}) {
                ChainBoard x = filled(0x03 + 16 * r, 0x0b + 16 * r, 0x0b + 16 * r);
                x.set(r == 3 ? 8 : r + 1, v);
                x.run(1);
                check.due("rr + 1", rr(x, r), v + 1 & 0xffff);
                Program.steps(x, 2);
                check.due("rr - 1", rr(x, r), v - 1 & 0xffff);
                check.due("AF", x.register(0), 0x18d7);
            }
        }
    }

    private static void stack() {
        int[] which = {1, 2, 3, 0};
        for (int q = 0; q < 4; q++) {
            ChainBoard x = filled(0xc5 + 16 * q);
            int v = x.register(which[q]);
            x.run(1);
            check.due("PUSH " + q + " SP", x.register(8), 0x1fe);
            check.due("PUSH " + q + " low", x.peek(0x1fe), v & 255);
            check.due("PUSH " + q + " high", x.peek(0x1ff), v >> 8);
            check.due("PUSH leaves it", x.register(which[q]), v);
            x = filled(0xc1 + 16 * q);
            x.poke(0x200, 0xff);
            x.poke(0x201, 0xfe);
            x.run(1);
            check.due("POP " + q, x.register(which[q]), q == 3 ? 0xfed7 : 0xfeff);
            check.due("POP " + q + " SP", x.register(8), 0x202);
        }
    }

    private static void stackWraps() {
        ChainBoard x = filled(0xc5, 0xd1);
        x.set(8, 1);
        Program.steps(x, 2);
        check.due("popped over the end", x.register(2), 0x1112);
        check.due("SP over the end", x.register(8), 1);
        check.due("low at the end", x.peek(1023), 0x12);
        check.due("high at 0", x.peek(0), 0x11);
        x = filled(0xc5);
        x.set(8, 0);
        x.run(1);
        check.due("SP below 0", x.register(8), 0xfffe);
    }

    private static void transfers() {
        ChainBoard x = filled(0x0a, 0x1a, 0x3a, 0x55, 0x07, 0x2a, 0xff, 0x03);
        x.poke(0x112, 0x61);
        x.poke(0x314, 0x62);
        x.poke(0x355, 0x63);
        x.poke(0x3ff, 0x64);
        x.run(1);
        check.due("A = byte at BC", x.register(0), 0x61d7);
        x.run(1);
        check.due("A = byte at DE", x.register(0), 0x62d7);
        x.run(1);
        check.due("A = byte at nn", x.register(0), 0x63d7);
        x.run(1);
        check.due("HL = word at nn", x.register(3), 0x0a64);
        x = filled(0x02, 0x12, 0x32, 0x55, 0x07, 0x22, 0xff, 0x03);
        Program.steps(x, 4);
        check.due("byte at BC = A", x.peek(0x112), 0x18);
        check.due("byte at DE = A", x.peek(0x314), 0x18);
        check.due("byte at nn = A", x.peek(0x355), 0x18);
        check.due("word at nn = HL, low", x.peek(0x3ff), 0x16);
        check.due("word at nn = HL, high", x.peek(0), 0x01);
        x = filled(0xf9);
        x.run(1);
        check.due("SP = HL", x.register(8), 0x116);
    }

    private static void goes() {
        ChainBoard x = filled(0xc3, 0x34, 0x92);
        x.run(1);
        check.due("go to nn", x.register(9), 0x9234);
        x.poke(0x234, 0xe9);
        x.run(1);
        check.due("go to HL", x.register(9), 0x116);
    }

    private static void relatives() {
        int[][] rows = {{0x18, 0x7f, 0x81}, {0x18, 0x80, 0xff82}, {0x18, 0xfe, 0}, {0x18, 0, 2}};
        for (int[] row : rows) {
            ChainBoard x = Program.of(row[0], row[1]);
            x.run(1);
            check.due("e " + row[1], x.register(9), row[2]);
        }
        for (int cc = 0; cc < 4; cc++) {
            int flag = cc < 2 ? 64 : 1;
            for (int f : new int[] {flag, 0xff ^ flag}) {
                boolean taken = (f == flag) == (cc % 2 == 1);
                ChainBoard x = Program.of(0x20 + 8 * cc, 0x30);
                x.set(0, f);
                check.due("e if " + cc, x.run(1), taken ? 12 : 7);
                check.due("e if " + cc + " PC", x.register(9), taken ? 0x32 : 2);
            }
        }
    }

    private static void counting() {
        for (int b : new int[] {0, 1, 2, 255}) {
            ChainBoard x = filled(0x10, 0xfe);
            x.set(1, b << 8 | 0x77);
            check.due("10 with " + b, x.run(1), b == 1 ? 8 : 13);
            check.due("B", x.register(1), (b - 1 & 255) << 8 | 0x77);
            check.due("PC", x.register(9), b == 1 ? 2 : 0);
            check.due("AF", x.register(0), 0x18d7);
        }
    }

    private static void calls() {
        ChainBoard x = filled(0xcd, 0x40, 0x80);
        x.poke(0x40, 0xc9);
        x.run(1);
        check.due("CALL PC", x.register(9), 0x8040);
        check.due("CALL SP", x.register(8), 0x1fe);
        check.due("CALL low", x.peek(0x1fe), 3);
        check.due("CALL high", x.peek(0x1ff), 0);
        x.run(1);
        check.due("RET PC", x.register(9), 3);
        check.due("RET SP", x.register(8), 0x200);
        // The word behind is read before the push writes over it.
        x = Program.of(0xcd, 0x40, 0x01);
        x.set(8, 3);
        x.run(1);
        check.due("CALL over itself", x.register(9), 0x140);
        check.due("CALL over itself, pushed", x.peek(1), 3);
    }

    private static void conditions() {
        int[] flags = {64, 1, 4, 128};
        for (int cc = 0; cc < 8; cc++) {
            for (int f : new int[] {flags[cc / 2], 0xff ^ flags[cc / 2]}) {
                boolean holds = (f == flags[cc / 2]) == (cc % 2 == 1);
                ChainBoard x = filled(0xc2 + 8 * cc, 0x34, 0x12);
                x.set(0, f);
                check.due("go if " + cc, x.run(1), 10);
                check.due("go if PC", x.register(9), holds ? 0x1234 : 3);
                x = filled(0xc4 + 8 * cc, 0x34, 0x12);
                x.set(0, f);
                check.due("CALL if " + cc, x.run(1), holds ? 17 : 10);
                check.due("CALL if PC", x.register(9), holds ? 0x1234 : 3);
                check.due("CALL if SP", x.register(8), holds ? 0x1fe : 0x200);
                x = filled(0xc0 + 8 * cc);
                x.poke(0x201, 0x77);
                x.set(0, f);
                check.due("RET if " + cc, x.run(1), holds ? 11 : 5);
                check.due("RET if PC", x.register(9), holds ? 0x7700 : 1);
                check.due("RET if SP", x.register(8), holds ? 0x202 : 0x200);
            }
        }
    }

    private static void restarts() {
        for (int p = 0; p < 8; p++) {
            ChainBoard x = filled(0xc7 + 8 * p);
            x.run(1);
            check.due("CALL 8p", x.register(9), 8 * p);
            check.due("CALL 8p pushed", x.peek(0x1fe), 1);
            check.due("CALL 8p SP", x.register(8), 0x1fe);
        }
    }

    private static void all(String name, ChainBoard x, int... want) {
        for (int i = 0; i < want.length; i++) {
            check.due(name + " register(" + i + ")", x.register(i), want[i]);
        }
    }

    private static void exchanges() {
        ChainBoard x = filled(0xeb);
        x.run(1);
        all("EB", x, 0x18d7, 0x1112, 0x0116, 0x1314, 0x2002, 0x2425, 0x2627, 0x2829);
        x = filled(0x08);
        x.run(1);
        all("08", x, 0x2002, 0x1112, 0x1314, 0x0116, 0x18d7, 0x2425, 0x2627, 0x2829);
        x = filled(0xd9);
        x.run(1);
        all("D9", x, 0x18d7, 0x2425, 0x2627, 0x2829, 0x2002, 0x1112, 0x1314, 0x0116);
        x = filled(0xe3);
        x.set(8, 0x3ff);
        x.poke(0x3ff, 0x99);
        x.run(1);
        all("E3", x, 0x18d7, 0x1112, 0x1314, 0xe399, 0x2002, 0x2425, 0x2627, 0x2829, 0x3ff);
        check.due("E3 low", x.peek(0x3ff), 0x16);
        check.due("E3 high", x.peek(0), 0x01);
    }

    private static void copies() {
        for (int code : new int[] {0xa0, 0xb0}) {
            for (int bc : new int[] {0, 1, 2, 0x100}) {
                for (int f : new int[] {0, 0xff}) {
                    ChainBoard x = filled(0xed, code);
                    x.set(0, 0x1800 | f);
                    x.set(1, bc);
                    x.set(2, 0xffff);
                    boolean more = bc != 1;
                    boolean again = more && code == 0xb0;
                    check.due("copy clocks", x.run(1), again ? 21 : 16);
                    check.due("copied", x.peek(0x3ff), 0x17);
                    all("copy", x, 0x1800 | f & 0xc1 | (more ? 4 : 0), bc - 1 & 0xffff, 0, 0x117);
                    check.due("copy PC", x.register(9), again ? 0 : 2);
                }
            }
        }
    }

    private static void copiesOverItself() {
        // The copy writes 76 over its own second byte, which is read anew each time: ED 76 is none.
        ChainBoard x = Program.of(0xed, 0xb0);
        x.set(1, 5);
        x.set(2, 1);
        x.set(3, 0x100);
        x.poke(0x100, 0x76);
        check.due("run", x.run(100), 21);
        check.due("state", x.state(), 2);
        check.due("PC", x.register(9), 0);
        check.due("instructions", x.passed(1), 1);
    }

    private static void copiesOverTheEnd() {
        for (int pc : new int[] {0xffff, 0xfffe, 0, 1, 0x7d}) {
            ChainBoard x = new ChainBoard();
            x.poke(pc & 1023, 0xed);
            x.poke(pc + 1 & 1023, 0xb0);
            x.set(1, 2);
            x.set(2, 0x200);
            x.set(3, 0x300);
            x.set(9, pc);
            check.due("copy at " + pc, x.run(1), 21);
            check.due("PC", x.register(9), pc);
            check.due("copy at " + pc, x.run(1), 16);
            check.due("PC", x.register(9), pc + 2 & 0xffff);
        }
    }

    private static void special() {
        ChainBoard x = filled(0xed, 0x47, 0x76);
        x.run(1);
        check.due("I = A", x.register(10), 0x18);
        all("I = A", x, 0x18d7, 0x1112, 0x1314, 0x0116);
        x.run(1);
        check.due("HALT PC", x.register(9), 3);
        check.due("HALT", x.state(), 1);
        x = filled(0xed, 0x4d);
        x.poke(0x200, 0x21);
        x.poke(0x201, 0x43);
        x.run(1);
        check.due("RETI PC", x.register(9), 0x4321);
        check.due("RETI SP", x.register(8), 0x202);
    }

    private static void addressesWrap() {
        ChainBoard x = new ChainBoard();
        x.poke(1023, 0x01);
        x.poke(0, 0xcd);
        x.poke(1, 0xab);
        x.set(9, 0xffff);
        x.run(1);
        check.due("BC read over the end", x.register(1), 0xabcd);
        check.due("PC over the end", x.register(9), 2);
        x = new ChainBoard();
        x.poke(5, 0x2f);
        x.set(9, 0xfc05);
        x.run(1);
        check.due("A by a high PC", x.register(0) >> 8, 255);
        check.due("a high PC stays high", x.register(9), 0xfc06);
        x = new ChainBoard();
        x.poke(1023, 0xcb);
        x.poke(0, 0x30);
        x.set(9, 0xffff);
        x.run(5);
        check.due("PC of a stop over the end", x.register(9), 0xffff);
        x = Program.of(0x7e);
        x.set(3, 0xfc10);
        x.poke(0x10, 0x44);
        x.run(1);
        check.due("M modulo 1024", x.register(0) >> 8, 0x44);
    }

    private static void ports() {
        ChainBoard x = filled(0xdb, 0x33, 0xd3, 0x33, 0xd3, 0x06, 0xdb, 0xff);
        check.due("IN", x.run(1), 11);
        check.due("IN from no port", x.register(0), 0xffd7);
        check.due("OUT", x.run(1), 11);
        check.due("OUT", x.run(1), 11);
        for (int d = 0; d < 4; d++) {
            for (int what = 0; what < 6; what++) {
                check.due("OUT to no port", x.device(d, what), d == 1 && what == 2 ? 2 : 0);
            }
        }
        x.set(0, 0);
        x.run(1);
        check.due("IN from port 255", x.register(0), 0xff00);
        x = filled(0xdb, 0x03, 0x3e, 0x00, 0xdb, 0x05);
        x.run(1);
        check.due("IN from 3", x.register(0), 0xffd7);
        Program.steps(x, 2);
        check.due("IN from 5", x.register(0), 0xffd7);
    }

    private static void outReachesItsOwnAlone() {
        for (int port = 0; port < 6; port++) {
            ChainBoard x = new Program().out(port, 0x4e).load();
            Program.steps(x, 2);
            for (int d = 0; d < 4; d++) {
                for (int what = 0; what < 6; what++) {
                    check.due("OUT " + port + ": device(" + d + ", " + what + ")", x.device(d, what),
                            behindOut(port, d, what));
                }
            }
        }
    }

    /** 4E is a base for both channels, a latched byte that makes ready, or a vector. */
    private static int behindOut(int port, int d, int what) {
        boolean channel = d < 2;
        if (channel) {
            return what == 2 ? (port < 2 ? 0x48 : 0) + 2 * d : 0;
        }
        if (port / 2 != d - 1) {
            return 0;
        }
        boolean data = port % 2 == 0;
        switch (what) {
            case 2: return data ? 0 : 0x4e;
            case 4: return data ? 1 : 0;
            case 5: return data ? 0x4e : 0;
            default: return 0;
        }
    }
}
