/** Promises 10, 11 and 12 for the parallel chip: strobe, lines, device 2 and 3, and ports 2 to 5. */
public final class PortTest {
    private static final Check check = new Check();
    private static int p;
    private static int data;
    private static int control;

    public static void main(String[] args) {
        for (p = 0; p < 2; p++) {
            data = 2 + 2 * p;
            control = data + 1;
            output();
            outputMayNot();
            input();
            bitsAreRead();
            noStrobeInBits();
            modes();
            modesMakeNotReady();
            vectors();
            otherControls();
            allAndAnyHighAndLow();
            onlyTheBeginningCounts();
            looksBehindControls();
            otherModesHoldNothing();
            maskTakesBack();
            permissionAlone();
            dueBytesComeFirst();
        }
        wrongNumbers();
        devicesAndWhats();
        check.end();
    }

    private static ChainBoard done(Program program, int outs) {
        ChainBoard x = program.load();
        Program.steps(x, 2 * outs);
        return x;
    }

    private static Program control(int... bytes) {
        Program program = new Program();
        for (int b : bytes) {
            program.out(control, b);
        }
        return program;
    }

    private static void more(ChainBoard x, int port, int... bytes) {
        for (int b : bytes) {
            x.poke4(0x300, 0x3e00d300 | b << 16 | port);
            x.set(9, 0x300);
            Program.steps(x, 2);
        }
    }

    private static int in(ChainBoard x, int port) {
        x.poke4(0x300, 0xdb000000 | port << 16);
        x.set(9, 0x300);
        x.run(1);
        return x.register(0) >> 8;
    }

    private static void port(String name, ChainBoard x, int requesting, int mode, int ready, int latch) {
        check.due(name + ": requesting", x.device(2 + p, 0), requesting);
        check.due(name + ": mode", x.device(2 + p, 3), mode);
        check.due(name + ": ready", x.device(2 + p, 4), ready);
        check.due(name + ": latch", x.device(2 + p, 5), latch);
    }

    private static void output() {
        ChainBoard x = done(control(0x83), 1);
        check.due("strobe before ready", x.strobe(p, 1), false);
        port("at first", x, 0, 0, 0, 0);
        more(x, data, 0x5a);
        port("latched", x, 0, 0, 1, 0x5a);
        check.due("IN", in(x, data), 0x5a);
        port("IN leaves it", x, 0, 0, 1, 0x5a);
        check.due("strobe", x.strobe(p, 0x77), true);
        port("taken", x, 1, 0, 0, 0x5a);
        check.due("strobe again", x.strobe(p, 0x77), false);
        check.due("IN", in(x, data), 0x5a);
        port("IN makes no output ready", x, 1, 0, 0, 0x5a);
        more(x, data, 0xff);
        port("latched again", x, 1, 0, 1, 0xff);
        more(x, control, 0x0f);
        port("mode set again", x, 1, 0, 0, 0xff);
        check.due("strobe then", x.strobe(p, 1), false);
        check.due("the other is as at first", x.device(3 - p, 4) + x.device(3 - p, 5) + x.device(3 - p, 0), 0);
    }

    private static void outputMayNot() {
        ChainBoard x = done(new Program().out(data, 7), 1);
        check.due("strobe", x.strobe(p, 0), true);
        port("may not", x, 0, 0, 0, 7);
    }

    private static void input() {
        ChainBoard x = done(control(0x4f, 0x83), 2);
        port("input", x, 0, 1, 0, 0);
        check.due("strobe before ready", x.strobe(p, 0x11), false);
        check.due("IN of nothing", in(x, data), 0);
        port("ready", x, 0, 1, 1, 0);
        check.due("strobe", x.strobe(p, 0x1234), true);
        port("received", x, 1, 1, 0, 0);
        check.due("strobe again", x.strobe(p, 0x56), false);
        check.due("IN", in(x, data), 0x34);
        port("ready", x, 1, 1, 1, 0);
        check.due("strobe", x.strobe(p, -1), true);
        check.due("IN", in(x, data), 255);
        more(x, data, 0x99);
        port("latch", x, 1, 1, 1, 0x99);
        check.due("IN is not the latch", in(x, data), 255);
        x.strobe(p, 1);
        more(x, data, 0x98);
        port("OUT makes no input ready", x, 1, 1, 0, 0x98);
        more(x, control, 0x03);
        check.due("IN", in(x, data), 1);
        ChainBoard y = done(control(0x4f), 1);
        in(y, data);
        check.due("strobe", y.strobe(p, 3), true);
        port("may not", y, 0, 1, 0, 0);
    }

    private static void bitsAreRead() {
        ChainBoard x = done(control(0xcf, 0xf0), 2);
        x.lines(p, 0xa5);
        more(x, data, 0x3c);
        check.due("IN", in(x, data), 0xac);
        port("bits", x, 0, 3, 0, 0x3c);
        x.lines(p, 0x15a);
        check.due("IN", in(x, data), 0x5c);
        x.lines(p, -1);
        check.due("IN", in(x, data), 0xfc);
        more(x, control, 0xcf, 0x0f);
        check.due("IN", in(x, data), 0x3f);
        // Lines that came in another mode are there when the mode is 3.
        ChainBoard y = new ChainBoard();
        check.due("lines", y.lines(p, 0x66), true);
        more(y, control, 0xcf, 0xff);
        check.due("IN", in(y, data), 0x66);
    }

    private static void noStrobeInBits() {
        ChainBoard x = done(control(0xcf, 0xff, 0x83), 3);
        more(x, data, 1);
        in(x, data);
        check.due("strobe", x.strobe(p, 1), false);
        port("bits", x, 0, 3, 0, 1);
    }

    private static void modes() {
        int[] want = {0, 1, 3, 3};
        for (int v = 0x0f; v < 256; v += 16) {
            ChainBoard x = done(control(v, 0x40), 2);
            int mode = want[v / 64];
            port("mode " + v, x, 0, mode, 0, 0);
            check.due("directions are due with 3", x.device(2 + p, 2), mode == 3 ? 0 : 0x40);
            if (mode == 3) {
                x.lines(p, 255);
                check.due("directions", in(x, data), 0x40);
            }
        }
    }

    private static void modesMakeNotReady() {
        for (int v : new int[] {0x0f, 0x4f, 0x8f, 0xcf}) {
            ChainBoard x = done(new Program().out(data, 5).out(control, v), 2);
            port("mode " + v, x, 0, v / 64 == 2 ? 3 : v / 64, 0, 5);
        }
        ChainBoard x = done(new Program().out(data, 5).out(control, 0x44).out(control, 0x87).out(control, 0x03)
                .out(control, 0x01), 5);
        port("others leave it", x, 0, 0, 1, 5);
    }

    private static void vectors() {
        for (int v = 0; v < 256; v += 2) {
            ChainBoard x = done(control(v), 1);
            check.due("vector " + v, x.device(2 + p, 2), v);
            check.due("vector of the other", x.device(3 - p, 2), 0);
        }
    }

    private static void otherControls() {
        for (int low : new int[] {1, 5, 9, 11, 13}) {
            ChainBoard x = done(new Program().out(data, 5).out(control, 0x83).out(control, 0x62)
                    .out(control, low).out(control, 0xf0 + low), 5);
            port("control " + low, x, 0, 0, 1, 5);
            check.due("vector", x.device(2 + p, 2), 0x62);
            check.due("strobe", x.strobe(p, 0), true);
            port("may still", x, 1, 0, 0, 5);
        }
    }

    /** Directions f0, mask 5a: the lines 7 and 5 are looked at. */
    private static void allAndAnyHighAndLow() {
        for (int v = 0x97; v < 256; v += 32) {
            boolean all = (v & 64) != 0;
            boolean high = (v & 32) != 0;
            for (int before = 0; before < 4; before++) {
                for (int lines = 0; lines < 4; lines++) {
                    ChainBoard x = done(control(0xcf, 0xf0), 2);
                    x.lines(p, spread(before));
                    more(x, control, v, 0x5a);
                    boolean held = holds(before, all, high);
                    port("begins " + v + " with " + before, x, held ? 1 : 0, 3, 0, 0);
                    // Taking the request back without a change of what holds.
                    more(x, control, v, 0x5a);
                    port("goes on " + v, x, 0, 3, 0, 0);
                    x.lines(p, spread(lines) ^ 0x5f);
                    boolean now = holds(lines, all, high);
                    port("lines " + before + " to " + lines + " by " + v, x, now && !held ? 1 : 0, 3, 0, 0);
                }
            }
        }
    }

    private static int spread(int two) {
        return (two & 2) << 6 | (two & 1) << 5;
    }

    private static boolean holds(int two, boolean all, boolean high) {
        int hits = Integer.bitCount(high ? two : 3 - two);
        return all ? hits == 2 : hits > 0;
    }

    private static void onlyTheBeginningCounts() {
        // Not allowed when it begins to hold: no request later, until it begins again.
        ChainBoard x = done(control(0xcf, 0xff, 0x37, 0x00), 4);
        x.lines(p, 1);
        port("may not", x, 0, 3, 0, 0);
        more(x, control, 0x83);
        port("may now", x, 0, 3, 0, 0);
        x.lines(p, 3);
        port("goes on", x, 0, 3, 0, 0);
        x.lines(p, 0);
        port("ends", x, 0, 3, 0, 0);
        x.lines(p, 2);
        port("begins", x, 1, 3, 0, 0);
        x.lines(p, 0);
        port("a request stays", x, 1, 3, 0, 0);
    }

    private static void looksBehindControls() {
        // The directions make it hold.
        ChainBoard x = done(control(0xb7, 0x00, 0xcf), 3);
        x.lines(p, 0x80);
        port("no inputs yet", x, 0, 3, 0, 0);
        more(x, control, 0x80);
        port("by directions", x, 1, 3, 0, 0);
        // The mask makes it hold.
        x = done(control(0xcf, 0xff, 0xb7), 3);
        x.lines(p, 0x80);
        port("all masked", x, 0, 3, 0, 0);
        more(x, control, 0x7f);
        port("by the mask", x, 1, 3, 0, 0);
        // The mode makes it hold, with the directions that were there before.
        x = done(control(0xcf, 0xff, 0xb7, 0x00, 0x0f), 5);
        x.lines(p, 0x80);
        port("output", x, 0, 0, 0, 0);
        more(x, control, 0xcf);
        port("by the mode", x, 1, 3, 0, 0);
        // The level makes it hold; a vector behind changes nothing.
        x = done(control(0xcf, 0xff, 0xb7, 0x00, 0x87), 5);
        port("low", x, 1, 3, 0, 0);
        check.due("no lines are watched without inputs", watchless(), 0);
    }

    private static int watchless() {
        ChainBoard x = done(control(0xcf, 0x0f, 0xf7, 0x0f), 4);
        x.lines(p, 255);
        return x.device(2 + p, 0);
    }

    private static void otherModesHoldNothing() {
        for (int mode : new int[] {0x0f, 0x4f}) {
            ChainBoard x = done(control(0xcf, 0xff, 0xb7, 0x00, mode), 5);
            x.lines(p, 255);
            port("mode " + mode, x, 0, mode / 64, 0, 0);
            more(x, control, 0xb7, 0x00);
            port("mode " + mode, x, 0, mode / 64, 0, 0);
            // It held in mode 3, not in this one, so it begins anew.
            more(x, control, 0xcf, 0xff);
            port("begins", x, 1, 3, 0, 0);
            more(x, control, 0xb7, 0x00);
            port("taken back", x, 0, 3, 0, 0);
            more(x, control, mode);
            more(x, control, 0xcf);
            port("begins anew", x, 1, 3, 0, 0);
        }
    }

    private static void maskTakesBack() {
        ChainBoard x = done(new Program().out(control, 0x83).out(data, 1), 2);
        x.strobe(p, 0);
        more(x, control, 0x87);
        port("without bit 4", x, 1, 0, 0, 1);
        more(x, control, 0x07);
        port("may no more, but asked", x, 1, 0, 0, 1);
        more(x, control, 0x97);
        port("with bit 4", x, 0, 0, 0, 1);
        more(x, control, 0x44);
        check.due("that was the mask", x.device(2 + p, 2), 0);
        more(x, control, 0x46);
        check.due("that was not", x.device(2 + p, 2), 0x46);
    }

    private static void permissionAlone() {
        ChainBoard x = done(new Program().out(control, 0x83).out(data, 1), 2);
        x.strobe(p, 0);
        more(x, control, 0x03);
        port("a request stays", x, 1, 0, 0, 1);
        x = done(new Program().out(control, 0xf3).out(control, 0x73).out(data, 1), 3);
        x.strobe(p, 0);
        port("may not", x, 0, 0, 0, 1);
        x = done(control(0xcf, 0xff, 0x77, 0x00, 0x83), 5);
        x.lines(p, 0x7f);
        port("all and high stay", x, 0, 3, 0, 0);
        x.lines(p, 0xff);
        port("all and high stay", x, 1, 3, 0, 0);
    }

    /** What looks like another control is directions or mask when one is due. */
    private static void dueBytesComeFirst() {
        ChainBoard x = done(control(0xcf, 0x4f, 0xb7, 0x0f), 4);
        port("directions", x, 0, 3, 0, 0);
        x.lines(p, 0xff);
        check.due("IN", in(x, data), 0x4f);
        port("mask 0f", x, 1, 3, 0, 0);
        x = done(control(0xcf, 0xcf, 0x20), 3);
        check.due("due but once", x.device(2 + p, 2), 0x20);
        x = done(control(0x17, 0x17, 0x20), 3);
        check.due("due but once", x.device(2 + p, 2), 0x20);
        x = done(control(0x07, 0x20), 2);
        check.due("no mask is due", x.device(2 + p, 2), 0x20);
    }

    private static void wrongNumbers() {
        ChainBoard x = done(new Program().out(2, 1).out(4, 1), 2);
        for (int wrong : new int[] {-1, 2, 3, Integer.MIN_VALUE, Integer.MAX_VALUE}) {
            check.due("strobe(" + wrong + ")", x.strobe(wrong, 1), false);
            check.due("lines(" + wrong + ")", x.lines(wrong, 1), false);
        }
        check.due("ready", x.device(2, 4), 1);
        check.due("ready", x.device(3, 4), 1);
        check.due("lines(0)", x.lines(0, 1), true);
        check.due("lines(1)", x.lines(1, 1), true);
    }

    private static void devicesAndWhats() {
        ChainBoard x = new ChainBoard();
        for (int d : new int[] {-1, 4, 5, Integer.MIN_VALUE, Integer.MAX_VALUE}) {
            for (int what = -1; what < 7; what++) {
                check.due("device(" + d + ", " + what + ")", x.device(d, what), ChainBoard.NONE);
            }
        }
        for (int d = 0; d < 4; d++) {
            for (int what : new int[] {-1, 6, 7, Integer.MIN_VALUE, Integer.MAX_VALUE}) {
                check.due("device(" + d + ", " + what + ")", x.device(d, what), ChainBoard.NONE);
            }
        }
    }
}
