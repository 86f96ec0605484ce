/**
 * The class beside Model: the same calls on both, on programs that are thrown together but the same in
 * every run. What a call must leave alone shows here, wherever it is.
 */
public final class ModelTest {
    private static final int BOARDS = 3000;
    private static final int CALLS = 512;
    private static final int[] NOT_THERE = {-1, Integer.MIN_VALUE, Integer.MAX_VALUE, 1024, 2, 4, 6, 13, 256};

    private static final Check check = new Check();

    private final Dice dice;
    private final ChainBoard board = new ChainBoard();
    private final Model model = new Model();
    private final String name;
    private int calls = 0;
    private boolean apart = false;

    private ModelTest(int number) {
        dice = new Dice(number);
        name = "board " + number;
    }

    public static void main(String[] args) {
        for (int i = 0; i < BOARDS; i++) {
            ModelTest test = new ModelTest(i);
            test.load(i % 3 == 0 ? test.wildProgram() : test.servedProgram());
            test.use();
        }
        check.end();
    }

    /** The same numbers in every run. */
    private static final class Dice {
        private long seed;

        Dice(int number) {
            seed = number * 7919L + 1;
        }

        int below(int n) {
            seed = seed * 6364136223846793005L + 1442695040888963407L;
            return (int) ((seed >>> 33) % n);
        }

        boolean chance(int percent) {
            return below(100) < percent;
        }

        int of(int... choices) {
            return choices[below(choices.length)];
        }
    }

    /** What comes behind the first difference tells nothing more. */
    private void compare(String call, int got, int want) {
        calls++;
        if (!apart) {
            check.due(name + ", call " + calls + ": " + call, got, want);
            apart = got != want;
        }
    }

    private void compare(String call, boolean got, boolean want) {
        compare(call, got ? 1 : 0, want ? 1 : 0);
    }

    private void load(int[] bytes) {
        for (int i = 0; i < 1024; i += 4) {
            int v = bytes[i] << 24 | bytes[i + 1] << 16 | bytes[i + 2] << 8 | bytes[i + 3];
            if (v != 0) {
                compare("poke4(" + i + ", " + v + ")", board.poke4(i, v), model.poke4(i, v));
            }
        }
    }

    private void use() {
        while (calls < CALLS - 60) {
            act();
            for (int i = dice.below(4); i > 0; i--) {
                ask();
            }
        }
        askForAll();
    }

    private void act() {
        int kind = dice.below(100);
        if (kind < 52) {
            int n = dice.of(1, 1, 1, 1, 4, 11, 30, dice.below(200), dice.below(1500));
            run(dice.chance(98) ? n : dice.of(0, -1, 5000, 5001, Integer.MAX_VALUE, Integer.MIN_VALUE));
        } else if (kind < 64) {
            int k = which(2);
            compare("trigger(" + k + ")", board.trigger(k), model.trigger(k));
        } else if (kind < 76) {
            int p = which(2);
            int v = dice.below(2000) - 1000;
            compare("strobe(" + p + ", " + v + ")", board.strobe(p, v), model.strobe(p, v));
        } else if (kind < 92) {
            int p = which(2);
            int v = dice.of(0, 255, dice.below(256), dice.below(2000) - 1000);
            compare("lines(" + p + ", " + v + ")", board.lines(p, v), model.lines(p, v));
        } else if (kind < 97) {
            int r = which(11);
            int v = r == 9 ? dice.below(1024) : dice.below(200000) - 100000;
            compare("set(" + r + ", " + v + ")", board.set(r, v), model.set(r, v));
        } else {
            int a = which(1024);
            int v = dice.below(2000) - 1000;
            compare("poke(" + a + ", " + v + ")", board.poke(a, v), model.poke(a, v));
        }
    }

    private void run(int n) {
        compare("run(" + n + ")", board.run(n), model.run(n));
    }

    private int which(int n) {
        return dice.chance(96) ? dice.below(n) : dice.of(NOT_THERE);
    }

    private void ask() {
        int kind = dice.below(100);
        if (kind < 50) {
            device(which(4), which(6));
        } else if (kind < 80) {
            register(which(13));
        } else if (kind < 90) {
            passed(which(3));
        } else if (kind < 95) {
            int a = which(1024);
            compare("peek(" + a + ")", board.peek(a), model.peek(a));
        } else {
            compare("state()", board.state(), model.state());
        }
    }

    private void askForAll() {
        for (int i = 0; i < 24; i++) {
            device(i / 6, i % 6);
        }
        for (int i = 0; i < 13; i++) {
            register(i);
        }
        for (int i = 0; i < 3; i++) {
            passed(i);
        }
        compare("state()", board.state(), model.state());
    }

    private void device(int d, int what) {
        compare("device(" + d + ", " + what + ")", board.device(d, what), model.device(d, what));
    }

    private void register(int which) {
        compare("register(" + which + ")", board.register(which), model.register(which));
    }

    private void passed(int what) {
        compare("passed(" + what + ")", board.passed(what), model.passed(what));
    }

    /** Any codes, with fewer of those that stop or wait than chance would bring. */
    private int[] wildProgram() {
        int[] bytes = new int[1024];
        int end = dice.of(120, 300, 600);
        for (int i = 0; i < end;) {
            i = copy(bytes, i, wildPiece());
        }
        return bytes;
    }

    private int[] wildPiece() {
        int kind = dice.below(100);
        if (kind < 20) {
            return devicePiece();
        }
        if (kind < 28) {
            return new int[] {0xed, dice.of(0x44, 0x42, 0x52, 0x62, 0x72, 0x4a, 0x5a, 0x6a, 0x7a, 0xa0, 0xb0, 0x47)};
        }
        if (kind < 36) {
            int code = dice.below(256);
            return new int[] {0xcb, code >= 0x30 && code < 0x38 && dice.chance(95) ? 0 : code};
        }
        int code = dice.below(256);
        boolean rare = code == 0x27 || code == 0x76 || code == 0xdd || code == 0xfd || code == 0xed || code == 0xcb;
        return new int[] {rare && dice.chance(95) ? 0x3c : code};
    }

    /** Devices that are set up to request, a loop that changes them, and handlers for their vectors. */
    private int[] servedProgram() {
        int[] bytes = new int[1024];
        int page = 1 + dice.below(2);
        copy(bytes, 0, new int[] {0x31, 0xff, 3, 0x21, 0xf0, 3, 0x3e, page, 0xed, 0x47,
            0xed, dice.of(0x56, 0x5e, 0x5e), 0xc3, 0x60, 0});
        int next = 0x60;
        for (int port : new int[] {0, 1, 3, 5}) {
            for (int i = 1 + dice.below(3); i > 0; i--) {
                next = copy(bytes, next, controls(port));
            }
        }
        int loop = next;
        while (next < 0xe8) {
            next = copy(bytes, next, devicePiece());
        }
        copy(bytes, next, new int[] {0xc3, loop, 0});
        for (int h = 0x300; h < 0x380; h += 0x20) {
            handler(bytes, h);
        }
        copy(bytes, 0x38, new int[] {0xc3, 0x00, 3});
        for (int v = 0; v < 256; v += 2) {
            copy(bytes, page * 256 + v, new int[] {0x20 * dice.below(4), 3});
        }
        return bytes;
    }

    private void handler(int[] bytes, int address) {
        int next = copy(bytes, address, new int[] {0xf5});
        if (dice.chance(50)) {
            next = copy(bytes, next, new int[] {0xfb});
        }
        if (dice.chance(60)) {
            next = copy(bytes, next, devicePiece());
        }
        next = copy(bytes, next, new int[] {0xf1});
        if (dice.chance(85)) {
            next = copy(bytes, next, new int[] {0xfb});
        }
        copy(bytes, next, dice.chance(85) ? new int[] {0xed, 0x4d} : new int[] {0xc9});
    }

    private int[] devicePiece() {
        int kind = dice.below(100);
        if (kind < 38) {
            return controls(dice.of(0, 1, 3, 5));
        }
        if (kind < 50) {
            return new int[] {0xdb, dice.of(0, 1, 2, 4, 3, 5, dice.below(256))};
        }
        if (kind < 58) {
            return new int[] {0x3e, dice.below(256), 0xd3, dice.of(2, 4, 2, 4, 6, 255)};
        }
        if (kind < 72) {
            return new int[] {dice.of(0xfb, 0xfb, 0xfb, 0xf3)};
        }
        if (kind < 80) {
            return new int[] {0x76};
        }
        if (kind < 85) {
            return new int[] {0xed, dice.of(0x56, 0x5e, 0x5e, 0x4d)};
        }
        if (kind < 90) {
            return new int[] {0xcb, dice.of(dice.below(0x30), 0x38 + dice.below(0xc8))};
        }
        return new int[] {dice.of(0x00, 0x03, 0x04, 0x0c, 0x14, 0x34, 0x35, 0x80, 0x8e, 0xb6, 0xeb, 0x09, 0x3f, 0x2f)};
    }

    private int[] controls(int port) {
        int kind = dice.below(10);
        if (port < 2) {
            int control = 0x85 | dice.of(0, 0, 32, 64, 64, 96, 2);
            int constant = dice.of(1, 2, 3, 5, 0, dice.below(256));
            int one = dice.of(8 * dice.below(32), 0x81, 0xc1, 0xa1, 0x01, 0x83, dice.below(256));
            return kind < 5 ? outs(port, control, constant) : outs(port, one);
        }
        if (kind < 3) {
            return outs(port, dice.of(0xcf, 0x8f), dice.of(255, 255, dice.below(256)));
        }
        if (kind < 6) {
            return outs(port, 0x97 | 32 * dice.below(4), dice.of(0, 0, 0xf0, dice.below(256)));
        }
        return outs(port, dice.of(0x87 | 32 * dice.below(4), 0x83, 0x03, 0x07, 0x4f, 0x4f, 0x0f,
                2 * dice.below(128), dice.below(256)));
    }

    private static int[] outs(int port, int... values) {
        int[] bytes = new int[4 * values.length];
        for (int i = 0; i < values.length; i++) {
            copy(bytes, 4 * i, new int[] {0x3e, values[i], 0xd3, port});
        }
        return bytes;
    }

    private static int copy(int[] bytes, int at, int[] piece) {
        System.arraycopy(piece, 0, bytes, at, piece.length);
        return at + piece.length;
    }
}
