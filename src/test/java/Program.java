/** A program that is put together piece by piece, and the board that it is poked into. */
final class Program {
    static final int OUT_CLOCKS = 18;

    private final int[] bytes = new int[1024];
    private int next = 0;

    Program code(int... more) {
        for (int b : more) {
            bytes[next++] = b;
        }
        return this;
    }

    Program at(int address) {
        next = address;
        return this;
    }

    /** A = v, OUT to the port: 18 clocks, 4 bytes. */
    Program out(int port, int v) {
        return code(0x3e, v, 0xd3, port);
    }

    /** Four bytes a call, and none for what is 0 anyway, to stay under the 512 calls of an object. */
    ChainBoard load() {
        ChainBoard x = new ChainBoard();
        for (int i = 0; i < 1024; i += 4) {
            int v = bytes[i] << 24 | bytes[i + 1] << 16 | bytes[i + 2] << 8 | bytes[i + 3];
            if (v != 0) {
                x.poke4(i, v);
            }
        }
        return x;
    }

    static ChainBoard of(int... bytes) {
        return new Program().code(bytes).load();
    }

    static int steps(ChainBoard x, int n) {
        int clocks = 0;
        for (int i = 0; i < n; i++) {
            clocks += x.run(1);
        }
        return clocks;
    }
}
