/** Promises 2, 3 and 4: poke, poke4, peek. */
public final class MemoryTest {
    private static final int[] ABSENT = {-1, -1024, 1024, 1025, 2047, Integer.MIN_VALUE, Integer.MAX_VALUE};
    private static final Check check = new Check();

    public static void main(String[] args) {
        bytes();
        fours();
        foursAtTheEdges();
        absent();
        check.end();
    }

    private static void bytes() {
        for (int from = 0; from < 1024; from += 128) {
            ChainBoard x = new ChainBoard();
            for (int i = from; i < from + 128; i++) {
                check.due("poke", x.poke(i, i * 7 + 3), true);
            }
            for (int i = from; i < from + 128; i++) {
                check.due("peek(" + i + ")", x.peek(i), (i * 7 + 3) & 255);
            }
        }
        ChainBoard x = new ChainBoard();
        x.poke(5, 511);
        check.due("peek of 511", x.peek(5), 255);
        x.poke(5, -1);
        check.due("peek of -1", x.peek(5), 255);
        x.poke(5, 256);
        check.due("peek of 256", x.peek(5), 0);
        x.poke(5, Integer.MIN_VALUE | 0x81);
        check.due("peek of a negative", x.peek(5), 0x81);
    }

    private static void fours() {
        ChainBoard x = new ChainBoard();
        x.poke(9, 0xaa);
        x.poke(14, 0xbb);
        check.due("poke4", x.poke4(10, 0xf1e2d3c4), true);
        int[] want = {0xaa, 0xf1, 0xe2, 0xd3, 0xc4, 0xbb};
        for (int i = 0; i < 6; i++) {
            check.due("peek(" + (9 + i) + ")", x.peek(9 + i), want[i]);
        }
    }

    private static void foursAtTheEdges() {
        ChainBoard x = new ChainBoard();
        check.due("poke4(0)", x.poke4(0, 0x01020304), true);
        check.due("peek(0)", x.peek(0), 1);
        check.due("poke4(1020)", x.poke4(1020, 0x05060708), true);
        check.due("peek(1023)", x.peek(1023), 8);
        for (int address : new int[] {1021, 1022, 1023, -1, -2, -3, -4}) {
            check.due("poke4(" + address + ")", x.poke4(address, -1), false);
        }
        int[] ends = {0, 1, 2, 1020, 1021, 1022, 1023};
        int[] want = {1, 2, 3, 5, 6, 7, 8};
        for (int i = 0; i < ends.length; i++) {
            check.due("unchanged peek(" + ends[i] + ")", x.peek(ends[i]), want[i]);
        }
    }

    private static void absent() {
        ChainBoard x = new ChainBoard();
        for (int address : ABSENT) {
            check.due("poke(" + address + ")", x.poke(address, 1), false);
            check.due("poke4(" + address + ")", x.poke4(address, 0x01010101), false);
            check.due("peek(" + address + ")", x.peek(address), ChainBoard.NONE);
        }
        for (int address : new int[] {0, 1, 1022, 1023}) {
            check.due("peek(" + address + ")", x.peek(address), 0);
        }
    }
}
