/** The codes that there are, with their clocks and lengths; all others stop the processor. */
public final class ClocksTest {
    /** Clocks of the first bytes with no flag set; 0: none such, 1: looked at apart. */
    private static final int[] CLEAR = {
        4, 10, 7, 6, 4, 4, 7, 4, 4, 11, 7, 6, 4, 4, 7, 4,
        13, 10, 7, 6, 4, 4, 7, 4, 12, 11, 7, 6, 4, 4, 7, 4,
        12, 10, 16, 6, 4, 4, 7, 0, 7, 11, 16, 6, 4, 4, 7, 4,
        12, 10, 13, 6, 11, 11, 10, 4, 7, 11, 13, 6, 4, 4, 7, 4,
        4, 4, 4, 4, 4, 4, 7, 4, 4, 4, 4, 4, 4, 4, 7, 4,
        4, 4, 4, 4, 4, 4, 7, 4, 4, 4, 4, 4, 4, 4, 7, 4,
        4, 4, 4, 4, 4, 4, 7, 4, 4, 4, 4, 4, 4, 4, 7, 4,
        7, 7, 7, 7, 7, 7, 4, 7, 4, 4, 4, 4, 4, 4, 7, 4,
        4, 4, 4, 4, 4, 4, 7, 4, 4, 4, 4, 4, 4, 4, 7, 4,
        4, 4, 4, 4, 4, 4, 7, 4, 4, 4, 4, 4, 4, 4, 7, 4,
        4, 4, 4, 4, 4, 4, 7, 4, 4, 4, 4, 4, 4, 4, 7, 4,
        4, 4, 4, 4, 4, 4, 7, 4, 4, 4, 4, 4, 4, 4, 7, 4,
        11, 10, 10, 10, 17, 11, 7, 11, 5, 10, 10, 1, 10, 17, 7, 11,
        11, 10, 10, 11, 17, 11, 7, 11, 5, 4, 10, 11, 10, 0, 7, 11,
        11, 10, 10, 19, 17, 11, 7, 11, 5, 4, 10, 4, 10, 1, 7, 11,
        11, 10, 10, 4, 17, 11, 7, 11, 5, 6, 10, 4, 10, 0, 7, 11,
    };

    /** Bytes that an instruction that goes nowhere takes; 0: it goes somewhere, or is none. */
    private static final String LENGTHS =
            "1311112111111121" + "0311112101111121" + "0331112001311121" + "0331112101311121"
            + "1111111111111111" + "1111111111111111" + "1111111111111111" + "1111111111111111"
            + "1111111111111111" + "1111111111111111" + "1111111111111111" + "1111111111111111"
            + "0100012000000020" + "0102012001020020" + "0101012000010020" + "0101012001010020";

    private static final Check check = new Check();

    public static void main(String[] args) {
        for (int code = 0; code < 256; code++) {
            if (CLEAR[code] != 1) {
                firstByte(code);
            }
            behindBits(code);
            behindExtended(code);
        }
        conditionsWithAllFlags();
        endOfCounting();
        check.end();
    }

    private static ChainBoard prepared(int first, int second) {
        ChainBoard x = new ChainBoard();
        x.poke4(0x100, first << 24 | second << 16 | 0x0200);
        x.set(1, 0x0202);
        x.set(2, 0x0304);
        x.set(3, 0x0280);
        x.set(8, 0x0300);
        x.set(9, 0x0100);
        return x;
    }

    private static void stops(String name, ChainBoard x) {
        x.set(0, 0xffff);
        check.due(name + " run(100)", x.run(100), 0);
        check.due(name + " state()", x.state(), 2);
        check.due(name + " PC", x.register(9), 0x100);
        check.due(name + " clocks", x.passed(0), 0);
        check.due(name + " instructions", x.passed(1), 0);
        check.due(name + " AF", x.register(0), 0xffd7);
        x.poke4(0x100, 0);
        check.due(name + " for good", x.run(100), 0);
        x.set(9, 0);
        check.due(name + " for good, elsewhere too", x.run(100), 0);
        check.due(name + " state() then", x.state(), 2);
    }

    private static void firstByte(int code) {
        String name = Integer.toHexString(code);
        ChainBoard x = prepared(code, 0x10);
        if (CLEAR[code] == 0) {
            stops(name, x);
            return;
        }
        check.due(name + " run(1)", x.run(1), CLEAR[code]);
        check.due(name + " passed(1)", x.passed(1), 1);
        check.due(name + " state()", x.state(), code == 0x76 ? 1 : 0);
        int length = LENGTHS.charAt(code) - '0';
        if (length != 0) {
            check.due(name + " PC", x.register(9), 0x100 + length);
        }
    }

    private static void behindBits(int code) {
        String name = "CB " + Integer.toHexString(code);
        ChainBoard x = prepared(0xcb, code);
        if (code >= 0x30 && code < 0x38) {
            stops(name, x);
            return;
        }
        int memory = code >= 0x40 && code < 0x80 ? 12 : 15;
        check.due(name + " run(1)", x.run(1), (code & 7) == 6 ? memory : 8);
        check.due(name + " PC", x.register(9), 0x102);
    }

    private static void behindExtended(int code) {
        String name = "ED " + Integer.toHexString(code);
        ChainBoard x = prepared(0xed, code);
        int want;
        switch (code) {
            case 0x44: case 0x56: case 0x5e: want = 8; break;
            case 0x42: case 0x52: case 0x62: case 0x72: case 0x4a: case 0x5a: case 0x6a: case 0x7a: want = 15; break;
            case 0xa0: want = 16; break;
            case 0xb0: want = 21; break;
            case 0x47: want = 9; break;
            case 0x4d: want = 14; break;
            default: stops(name, x); return;
        }
        check.due(name + " run(1)", x.run(1), want);
        if (code != 0xb0 && code != 0x4d) {
            check.due(name + " PC", x.register(9), 0x102);
        }
    }

    /** With all flags set each condition is the other way round. */
    private static void conditionsWithAllFlags() {
        for (int cc = 0; cc < 8; cc++) {
            boolean holds = cc % 2 == 1;
            conditional(0xc0 + 8 * cc, 0xff, holds ? 11 : 5);
            conditional(0xc4 + 8 * cc, 0xff, holds ? 17 : 10);
            conditional(0xc2 + 8 * cc, 0xff, 10);
            if (cc < 4) {
                conditional(0x20 + 8 * cc, 0xff, holds ? 12 : 7);
            }
        }
    }

    private static void conditional(int code, int flags, int want) {
        ChainBoard x = prepared(code, 0x10);
        x.set(0, flags);
        check.due(Integer.toHexString(code) + " with all flags", x.run(1), want);
    }

    private static void endOfCounting() {
        ChainBoard x = prepared(0x10, 0x10);
        x.set(1, 0x0102);
        check.due("10 at its end", x.run(1), 8);
        check.due("10 at its end: PC", x.register(9), 0x102);
        x = prepared(0xed, 0xb0);
        x.set(1, 1);
        check.due("ED B0 at its end", x.run(1), 16);
        check.due("ED B0 at its end: PC", x.register(9), 0x102);
    }
}
