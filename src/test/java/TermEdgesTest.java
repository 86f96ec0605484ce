/** The sentences on processor, memory and instructions that name a boundary case, each with a test of its own. */
public final class TermEdgesTest {
    private static final Check check = new Check();

    public static void main(String[] args) {
        registersAtFirst();
        memoryAtFirst();
        addressesReadModulo();
        addressesWriteModulo();
        wordsReadOverTheEnd();
        wordsWrittenOverTheEnd();
        flagsHaveNoOtherBits();
        programCounterWraps();
        stackPointerWraps();
        memoryIsRegisterSix();
        haltIsNoMove();
        offsetsHaveASign();
        offsetsWrap();
        stepsWrap();
        wordStepsWrap();
        countsDownToZero();
        conditionsByOneFlag();
        callsPushWhatIsBehind();
        fixedCalls();
        pushAndPopAreOpposite();
        exchangeOverTheEnd();
        copiesWrap();
        copyTellsOfMore();
        copyGoesBack();
        bitsLowestAndHighest();
        unknownCodesStop();
        stopsForGood();
        check.end();
    }

    private static ChainBoard at(int pc, int... code) {
        ChainBoard x = new ChainBoard();
        for (int i = 0; i < code.length; i++) {
            x.poke(pc + i & 1023, code[i]);
        }
        x.set(9, pc);
        return x;
    }

    private static void registersAtFirst() {
        check.by("all are 0 at first, but SP is 0xffff and F 0");
        ChainBoard x = new ChainBoard();
        for (int which = 0; which <= 10; which++) {
            check.due("register(" + which + ")", x.register(which), which == 8 ? 0xffff : 0);
        }
    }

    private static void memoryAtFirst() {
        check.by("MEMORY has 1024 bytes, 0 at first");
        for (int from = 0; from < 1024; from += 256) {
            ChainBoard x = new ChainBoard();
            for (int i = from; i < from + 256; i++) {
                check.due("peek(" + i + ")", x.peek(i), 0);
            }
        }
        check.due("peek(1024)", new ChainBoard().peek(1024), -1);
    }

    private static void addressesReadModulo() {
        check.by("an address counts modulo 1024 (what is read)");
        for (int high : new int[] {0, 0x400, 0x8000, 0xfc00}) {
            ChainBoard x = at(0, 0x0a, 0x1a, 0x7e, 0x3a, 0x44, high >> 8 | 1, 0x2a, 0x45, high >> 8 | 1, 0xc1);
            x.poke4(0x140, 0x11121314);
            x.poke4(0x144, 0x15161718);
            x.set(1, high + 0x140);
            x.set(2, high + 0x141);
            x.set(3, high + 0x142);
            x.set(8, high + 0x146);
            for (int want = 0x11; want <= 0x13; want++) {
                x.run(1);
                check.due("A from " + high, x.register(0) >> 8, want);
            }
            x.run(1);
            check.due("A by nn from " + high, x.register(0) >> 8, 0x15);
            x.run(1);
            check.due("HL by nn from " + high, x.register(3), 0x1716);
            x.run(1);
            check.due("BC by SP from " + high, x.register(1), 0x1817);
            x = at(high + 5, 0x2f);
            x.run(1);
            check.due("an instruction at " + high, x.register(0) >> 8, 255);
        }
    }

    private static void addressesWriteModulo() {
        check.by("an address counts modulo 1024 (what is written)");
        for (int high : new int[] {0, 0x400, 0x8000, 0xfc00}) {
            ChainBoard x = at(0, 0x02, 0x12, 0x77, 0x32, 0x44, high >> 8 | 1, 0x22, 0x46, high >> 8 | 1, 0xc5);
            x.set(0, 0x9900);
            x.set(1, high + 0x140);
            x.set(2, high + 0x141);
            x.set(3, high + 0x142);
            x.set(8, high + 0x14a);
            Program.steps(x, 6);
            int[] want = {0x99, 0x99, 0x99, 0, 0x99, 0, 0x42, high + 0x142 >> 8, 0x40, high + 0x140 >> 8, 0};
            for (int i = 0; i < want.length; i++) {
                check.due("byte " + i + " by " + high, x.peek(0x140 + i), want[i]);
            }
        }
    }

    private static void wordsReadOverTheEnd() {
        check.by("A word in memory has its low byte first (what is read, over the end too)");
        for (int address : new int[] {0x200, 0x3ff, 0xffff}) {
            ChainBoard x = at(0x100, 0x2a, address & 255, address >> 8, 0xd1, 0xc9);
            x.poke(address & 1023, 0x34);
            x.poke(address + 1 & 1023, 0x12);
            x.set(8, address);
            x.run(1);
            check.due("HL = word at " + address, x.register(3), 0x1234);
            x.run(1);
            check.due("POP DE at " + address, x.register(2), 0x1234);
            x.set(8, address);
            x.run(1);
            check.due("RET at " + address, x.register(9), 0x1234);
            x = at(address - 1 & 0xffff, 0x01, 0x34, 0x12);
            x.run(1);
            check.due("BC = nn at " + address, x.register(1), 0x1234);
            x = at(address - 1 & 0xffff, 0xc3, 0x34, 0x12);
            x.run(1);
            check.due("go to nn at " + address, x.register(9), 0x1234);
        }
    }

    private static void wordsWrittenOverTheEnd() {
        check.by("A word in memory has its low byte first (what is written, over the end too)");
        for (int address : new int[] {0x200, 0x3ff, 0xffff}) {
            ChainBoard x = at(0x100, 0x22, address & 255, address >> 8, 0xd5);
            x.set(3, 0x1234);
            x.set(2, 0x5678);
            x.set(8, address + 2);
            x.run(1);
            check.due("HL low at " + address, x.peek(address & 1023), 0x34);
            check.due("HL high at " + address, x.peek(address + 1 & 1023), 0x12);
            x.run(1);
            check.due("DE low at " + address, x.peek(address & 1023), 0x78);
            check.due("DE high at " + address, x.peek(address + 1 & 1023), 0x56);
            check.due("SP at " + address, x.register(8), address);
        }
    }

    private static void flagsHaveNoOtherBits() {
        check.by("the bits 32 and 8 are always 0, whatever is put into F or the second F");
        ChainBoard x = at(0, 0x08, 0xf5, 0xf1, 0xf1);
        x.set(0, 0x11ff);
        x.set(4, 0x2228);
        check.due("set(0)", x.register(0), 0x11d7);
        check.due("set(4)", x.register(4), 0x2200);
        x.run(1);
        check.due("exchanged", x.register(0), 0x2200);
        check.due("exchanged", x.register(4), 0x11d7);
        Program.steps(x, 2);
        check.due("pushed", x.peek(1021), 0);
        x.set(8, 0x200);
        x.poke4(0x200, 0xff330000);
        x.run(1);
        check.due("popped", x.register(0), 0x33d7);
        // Results with these bits do not bring them into F.
        for (int code : new int[] {0x87, 0x8f, 0x97, 0x9f, 0xa7, 0xaf, 0xb7, 0xbf, 0x3c, 0x3d, 0x07, 0x2f, 0x37,
                0x3f}) {
            for (int a = 0; a < 256; a += 5) {
                ChainBoard y = at(0, code);
                y.set(0, a << 8 | 0xff);
                y.run(1);
                check.due("bits 32 and 8 by " + code + " of " + a, y.register(0) & 0x28, 0);
            }
        }
    }

    private static void programCounterWraps() {
        check.by("PC (of 16 bits)");
        int[][] rows = {{0xffff, 0x00, 0}, {0xffff, 0x06, 1}, {0xfffe, 0x06, 0}, {0xffff, 0x01, 2}, {0xfffe, 0x01, 1},
            {0xfffd, 0x01, 0}, {0xffff, 0xcb, 1}, {0x3ff, 0x00, 0x400}, {0x3ff, 0x06, 0x401}, {0x3ff, 0x01, 0x402}};
        for (int[] row : rows) {
            ChainBoard x = at(row[0], row[1], 0x40, 0x41);
            x.run(1);
            check.due("PC behind " + row[1] + " at " + row[0], x.register(9), row[2]);
        }
    }

    private static void stackPointerWraps() {
        check.by("SP (of 16 bits)");
        int[][] rows = {{0xc5, 0, 0xfffe}, {0xc5, 1, 0xffff}, {0xc5, 2, 0}, {0xc1, 0xfffe, 0}, {0xc1, 0xffff, 1},
            {0x33, 0xffff, 0}, {0x3b, 0, 0xffff}, {0xc7, 1, 0xffff}, {0xc9, 0xffff, 1}, {0xcd, 0, 0xfffe}};
        for (int[] row : rows) {
            ChainBoard x = at(0x100, row[0]);
            x.set(8, row[1]);
            x.run(1);
            check.due("SP behind " + row[0] + " with " + row[1], x.register(8), row[2]);
        }
    }

    private static void memoryIsRegisterSix() {
        check.by("R is B C D E H L M A for 0 .. 7, M being the byte at HL");
        for (int r = 0; r < 8; r++) {
            ChainBoard x = at(0, 0x06 + 8 * r, 0xa1);
            x.set(3, 0xffff);
            x.run(1);
            int[] got = {x.register(1) >> 8, x.register(1) & 255, x.register(2) >> 8, x.register(2) & 255,
                x.register(3) >> 8, x.register(3) & 255, x.peek(1023), x.register(0) >> 8};
            for (int i = 0; i < 8; i++) {
                check.due("R " + i + " behind " + r + " = n", got[i], i == r ? 0xa1 : i == 4 || i == 5 ? 255 : 0);
            }
        }
    }

    private static void haltIsNoMove() {
        check.by("40 + 8r + q (but 76)");
        for (int code = 0x40; code < 0x80; code++) {
            ChainBoard x = at(0, code);
            x.set(3, 0x200);
            check.due("clocks of " + code, x.run(1), code != 0x76 && (code % 8 == 6 || code / 8 == 14) ? 7 : 4);
            check.due("state behind " + code, x.state(), code == 0x76 ? 1 : 0);
        }
    }

    private static void offsetsHaveASign() {
        check.by("e the same with its sign; e counts from behind the instruction");
        int[][] rows = {{0x00, 0x202}, {0x01, 0x203}, {0x7f, 0x281}, {0x80, 0x182}, {0xfe, 0x200}, {0xff, 0x201}};
        for (int[] row : rows) {
            for (int code : new int[] {0x18, 0x20, 0x30, 0x28, 0x38, 0x10}) {
                ChainBoard x = at(0x200, code, row[0]);
                x.set(0, code == 0x28 || code == 0x38 ? 0xff : 0);
                check.due("clocks", x.run(1), code == 0x10 ? 13 : 12);
                check.due("PC behind " + code + " by " + row[0], x.register(9), row[1]);
            }
        }
    }

    private static void offsetsWrap() {
        check.by("18 go on e further, PC of 16 bits");
        int[][] rows = {{0x0000, 0x80, 0xff82}, {0x0000, 0xfd, 0xffff}, {0xfffe, 0x00, 0}, {0xfffe, 0xff, 0xffff},
            {0xffff, 0x7f, 0x80}, {0xfffd, 0x01, 0}};
        for (int[] row : rows) {
            ChainBoard x = at(row[0], 0x18, row[1]);
            x.run(1);
            check.due("PC from " + row[0] + " by " + row[1], x.register(9), row[2]);
        }
    }

    private static void stepsWrap() {
        check.by("r = r + 1, r = r - 1");
        for (int r = 0; r < 8; r++) {
            for (int v : new int[] {0, 1, 127, 128, 254, 255}) {
                check.due("r + 1 of " + v + " in " + r, behind(r, v, 0x04 + 8 * r), v == 255 ? 0 : v + 1);
                check.due("r - 1 of " + v + " in " + r, behind(r, v, 0x05 + 8 * r), v == 0 ? 255 : v - 1);
            }
        }
    }

    /** What is in r, set by r = n at first, behind one more instruction; M is at 0x300. */
    private static int behind(int r, int v, int... code) {
        ChainBoard x = at(0x100, code);
        x.poke4(0x40, 0x06000000 + (8 * r << 24) | v << 16);
        x.poke(0x200, 0x78 + r);
        x.set(3, 0x300);
        for (int pc : new int[] {0x40, 0x100, 0x200}) {
            x.set(9, pc);
            x.run(1);
        }
        return x.register(0) >> 8;
    }

    private static void wordStepsWrap() {
        check.by("rr + 1, rr - 1");
        for (int rr = 0; rr < 4; rr++) {
            int which = rr == 3 ? 8 : rr + 1;
            int[][] rows = {{0x03, 0xffff, 0}, {0x03, 0xff, 0x100}, {0x03, 0, 1}, {0x0b, 0, 0xffff},
                {0x0b, 0x100, 0xff},
                {0x0b, 0xffff, 0xfffe}};
            for (int[] row : rows) {
                ChainBoard x = at(0, row[0] + 16 * rr);
                x.set(0, 0xd7);
                x.set(which, row[1]);
                check.due("clocks", x.run(1), 6);
                check.due("rr " + rr + " from " + row[1], x.register(which), row[2]);
                check.due("flags", x.register(0), 0xd7);
            }
        }
    }

    private static void countsDownToZero() {
        check.by("10 B - 1, if it is not 0 then, so 13, else 8");
        int[][] rows = {{0, 255, 13, 0x30}, {1, 0, 8, 2}, {2, 1, 13, 0x30}, {255, 254, 13, 0x30}};
        for (int[] row : rows) {
            ChainBoard x = at(0, 0x10, 0x2e);
            x.set(1, row[0] << 8 | 0x44);
            check.due("clocks with " + row[0], x.run(1), row[2]);
            check.due("BC with " + row[0], x.register(1), row[1] << 8 | 0x44);
            check.due("PC with " + row[0], x.register(9), row[3]);
        }
    }

    private static void conditionsByOneFlag() {
        check.by("cc is NZ Z NC C PO PE P M for 0 .. 7 (Z, C, P, S not set, or set)");
        int[] flags = {64, 64, 1, 1, 4, 4, 128, 128};
        for (int cc = 0; cc < 8; cc++) {
            for (int bit = 1; bit < 256; bit *= 2) {
                ChainBoard x = at(0, 0xc2 + 8 * cc, 0x34, 0x12);
                x.set(0, bit);
                x.run(1);
                boolean holds = (bit == flags[cc]) == (cc % 2 == 1);
                check.due("PC if " + cc + " with " + bit, x.register(9), holds ? 0x1234 : 3);
            }
        }
    }

    private static void callsPushWhatIsBehind() {
        check.by("CALL: PC behind the instruction is pushed, and it goes there");
        int[][] rows = {{0x0000, 3}, {0xfffc, 0xffff}, {0xfffd, 0}, {0xfffe, 1}, {0xffff, 2}};
        for (int[] row : rows) {
            for (int code : new int[] {0xcd, 0xc4}) {
                ChainBoard x = at(row[0], code, 0x34, 0x92);
                x.set(8, 0x102);
                check.due("clocks", x.run(1), 17);
                check.due("PC", x.register(9), 0x9234);
                check.due("pushed, low, from " + row[0], x.peek(0x100), row[1] & 255);
                check.due("pushed, high, from " + row[0], x.peek(0x101), row[1] >> 8);
            }
        }
    }

    private static void fixedCalls() {
        check.by("C7 + 8p: CALL 8p 11");
        for (int p = 0; p < 8; p++) {
            ChainBoard x = at(0xffff, 0xc7 + 8 * p);
            x.set(8, 0x102);
            x.poke(0x100, 9);
            check.due("clocks", x.run(1), 11);
            check.due("PC by " + p, x.register(9), 8 * p);
            check.due("pushed", x.peek(0x100), 0);
        }
    }

    private static void pushAndPopAreOpposite() {
        check.by("PUSH: SP - 2, the word at SP = it; POP the other way");
        int[] which = {1, 2, 3, 0};
        for (int qq = 0; qq < 4; qq++) {
            for (int sp : new int[] {0, 1, 2, 0x200, 0x400, 0xffff}) {
                ChainBoard x = at(0x100, 0xc5 + 16 * qq, 0xc1 + 16 * qq);
                x.set(which[qq], 0xa1d3);
                x.set(8, sp);
                x.run(1);
                check.due("SP from " + sp, x.register(8), sp - 2 & 0xffff);
                check.due("low", x.peek(sp - 2 & 1023), 0xd3);
                check.due("high", x.peek(sp - 1 & 1023), 0xa1);
                x.set(which[qq], 0);
                x.run(1);
                check.due("popped", x.register(which[qq]), 0xa1d3);
                check.due("SP again", x.register(8), sp);
            }
        }
    }

    private static void exchangeOverTheEnd() {
        check.by("E3 HL with the word at SP 19");
        for (int sp : new int[] {0x200, 0x3ff, 0xffff}) {
            ChainBoard x = at(0x100, 0xe3);
            x.set(3, 0x1234);
            x.set(8, sp);
            x.poke(sp & 1023, 0x78);
            x.poke(sp + 1 & 1023, 0x56);
            check.due("clocks", x.run(1), 19);
            check.due("HL", x.register(3), 0x5678);
            check.due("low", x.peek(sp & 1023), 0x34);
            check.due("high", x.peek(sp + 1 & 1023), 0x12);
            check.due("SP", x.register(8), sp);
        }
    }

    private static void copiesWrap() {
        check.by("ED A0 byte at DE = byte at HL, DE + 1, HL + 1, BC - 1 16");
        for (int code : new int[] {0xa0, 0xb0}) {
            ChainBoard x = at(0x100, 0xed, code);
            x.poke(1023, 0x6b);
            x.set(1, 0);
            x.set(2, 0x1ff);
            x.set(3, 0xffff);
            x.run(1);
            check.due("copied", x.peek(0x1ff), 0x6b);
            check.due("BC below 0", x.register(1), 0xffff);
            check.due("DE", x.register(2), 0x200);
            check.due("HL over the end", x.register(3), 0);
            x = at(0x100, 0xed, code);
            x.poke(0x1ff, 0x6c);
            x.set(1, 1);
            x.set(2, 0xffff);
            x.set(3, 0x1ff);
            x.run(1);
            check.due("copied", x.peek(1023), 0x6c);
            check.due("BC", x.register(1), 0);
            check.due("DE over the end", x.register(2), 0);
        }
    }

    private static void copyTellsOfMore() {
        check.by("ED A0, B0: H 0, N 0, P set when BC is not 0 then");
        int[][] rows = {{0, 4}, {1, 0}, {2, 4}, {0x100, 4}, {0x101, 4}, {0xffff, 4}};
        for (int[] row : rows) {
            for (int code : new int[] {0xa0, 0xb0}) {
                for (int f : new int[] {0, 0xd7}) {
                    ChainBoard x = at(0x100, 0xed, code);
                    x.set(0, f);
                    x.set(1, row[0]);
                    x.set(2, 0x200);
                    x.set(3, 0x300);
                    x.run(1);
                    check.due("F behind " + code + " with " + row[0], x.register(0), f & 0xc1 | row[1]);
                }
            }
        }
    }

    private static void copyGoesBack() {
        check.by("ED B0 as ED A0; if BC is not 0 then, PC goes back by 2, 21, else 16");
        int[][] rows = {{0, 21}, {1, 16}, {2, 21}, {0x100, 21}, {0xffff, 21}};
        for (int[] row : rows) {
            for (int pc : new int[] {0, 1, 0x100, 0xfffe, 0xffff}) {
                ChainBoard x = at(pc, 0xed, 0xb0);
                x.set(1, row[0]);
                x.set(2, 0x200);
                x.set(3, 0x300);
                check.due("clocks with " + row[0], x.run(1), row[1]);
                check.due("PC from " + pc + " with " + row[0], x.register(9), row[1] == 21 ? pc : pc + 2 & 0xffff);
            }
        }
        // All of it: 3 bytes, the last round takes 16.
        ChainBoard x = at(0x100, 0xed, 0xb0);
        x.poke4(0x300, 0x01020304);
        x.set(1, 3);
        x.set(2, 0x200);
        x.set(3, 0x300);
        check.due("clocks", x.run(58), 58);
        int[] want = {1, 2, 3, 0};
        for (int i = 0; i < 4; i++) {
            check.due("byte " + i, x.peek(0x200 + i), want[i]);
        }
        check.due("instructions", x.passed(1), 3);
    }

    private static void bitsLowestAndHighest() {
        check.by("CB 80 + 8b + q: bit b of q is 0; CB C0 + 8b + q: is 1");
        for (int b = 0; b < 8; b++) {
            for (int q = 0; q < 8; q++) {
                check.due("bit " + b + " of " + q + " is 0", behind(q, 255, 0xcb, 0x80 + 8 * b + q), 255 ^ 1 << b);
                check.due("bit " + b + " of " + q + " is 1", behind(q, 0, 0xcb, 0xc0 + 8 * b + q), 1 << b);
                check.due("bit " + b + " of " + q + " is 0 still", behind(q, 0, 0xcb, 0x80 + 8 * b + q), 0);
                check.due("bit " + b + " of " + q + " is 1 still", behind(q, 255, 0xcb, 0xc0 + 8 * b + q), 255);
            }
        }
    }

    private static boolean isThere(int first, int second) {
        if (first == 0xcb) {
            return second < 0x30 || second > 0x37;
        }
        if (first == 0xed) {
            switch (second) {
                case 0x42: case 0x52: case 0x62: case 0x72: case 0x4a: case 0x5a: case 0x6a: case 0x7a:
                case 0x44: case 0x47: case 0x4d: case 0x56: case 0x5e: case 0xa0: case 0xb0:
                    return true;
                default:
                    return false;
            }
        }
        return first != 0x27 && first != 0xdd && first != 0xfd;
    }

    private static void unknownCodesStop() {
        check.by("Any other instruction (the code that is none, or second byte behind CB or ED): the processor "
                + "STOPS, with PC at its first byte, and takes no clocks");
        for (int first = 0; first < 256; first++) {
            boolean two = first == 0xcb || first == 0xed;
            for (int second = 0; second < (two ? 256 : 1); second++) {
                for (int pc : new int[] {0x100, 0xffff}) {
                    ChainBoard x = at(pc, first, second);
                    int clocks = x.run(1);
                    String name = Integer.toHexString(first) + " " + Integer.toHexString(second) + " at " + pc;
                    boolean there = isThere(first, second);
                    check.due("stopped by " + name, x.state() == 2, !there);
                    check.due("clocks of " + name, clocks != 0, there);
                    check.due("passed with " + name, x.passed(0), clocks);
                    if (!there) {
                        check.due("PC of " + name, x.register(9), pc);
                    }
                }
            }
        }
    }

    private static void stopsForGood() {
        check.by("the processor STOPS, for good");
        ChainBoard x = at(0, 0xfb, 0x00, 0xdd);
        check.due("run", x.run(5000), 8);
        x.poke(2, 0x00);
        check.due("with another code", x.run(5000), 0);
        x.set(9, 0x100);
        check.due("with another PC", x.run(5000), 0);
        check.due("PC", x.register(9), 0x100);
        check.due("state", x.state(), 2);
        // A request comes too late.
        x = Devices.prepared(0xfb, 0x00, 0xdd);
        x.run(100);
        for (int d = 0; d < 4; d++) {
            Devices.ask(x, d);
            check.due("run", x.run(100), 0);
            check.due("requesting", x.device(d, 0), 1);
        }
        check.due("acknowledgements", x.passed(2), 0);
        check.due("state", x.state(), 2);
    }
}
