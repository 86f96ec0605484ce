/** The sentences on the ports that name a boundary case, each with a test of its own, for A and B. */
public final class PortEdgesTest {
    private static final Check check = new Check();
    private static int p;
    private static int data;
    private static int control;

    public static void main(String[] args) {
        for (p = 0; p < 2; p++) {
            data = 2 + 2 * p;
            control = data + 1;
            modeIsOutputAtFirst();
            whatIsDueComesFirst();
            evenBytesAreVectors();
            modeByTheHighestBits();
            modeMakesNotReady();
            directionsAreDueWithBits();
            permissionAllAndHigh();
            maskIsDueByBitFour();
            bitFourTakesBack();
            permissionAlone();
            otherControls();
            outputMakesReady();
            inputGivesWhatItsModeSays();
            watchesWhatMaskAndDirectionsLeave();
            allOrAnyHighOrLow();
            noneToWatch();
            looksWhenLinesCome();
            looksBehindControls();
            onlyWhatBeginsToHold();
            goesOnBehindControls();
            requestsIfItMay();
            otherModesHoldNothing();
            atFirst();
        }
        absentPorts();
        check.end();
    }

    private static ChainBoard controls(int... bytes) {
        ChainBoard x = new ChainBoard();
        more(x, bytes);
        return x;
    }

    private static void more(ChainBoard x, int... bytes) {
        for (int b : bytes) {
            out(x, control, b);
        }
    }

    private static void out(ChainBoard x, int port, int v) {
        x.poke4(0x300, 0x3e00d300 | v << 16 | port);
        x.set(9, 0x300);
        Program.steps(x, 2);
    }

    private static int in(ChainBoard x, int port) {
        x.poke4(0x300, 0x3e77db00 | port);
        x.set(9, 0x300);
        Program.steps(x, 2);
        return x.register(0) >> 8;
    }

    private static int requesting(ChainBoard x) {
        return x.device(2 + p, 0);
    }

    private static void modeIsOutputAtFirst() {
        check.by("a mode: 0 OUTPUT (at first), 1 INPUT, 3 BITS");
        check.due("at first", new ChainBoard().device(2 + p, 3), 0);
        check.due("1", controls(0x4f).device(2 + p, 3), 1);
        check.due("3", controls(0xcf).device(2 + p, 3), 3);
        check.due("0 again", controls(0xcf, 0xff, 0x0f).device(2 + p, 3), 0);
        check.due("the other", controls(0x4f).device(3 - p, 3), 0);
    }

    private static void whatIsDueComesFirst() {
        check.by("Bytes OUT to control: one that is due (directions, or mask) is that");
        for (int v : new int[] {0x00, 0x42, 0x0f, 0x97, 0x83, 0xff}) {
            ChainBoard x = controls(0xcf, v);
            check.due("mode behind directions " + v, x.device(2 + p, 3), 3);
            check.due("vector behind directions " + v, x.device(2 + p, 2), 0);
            x.lines(p, 255);
            check.due("directions " + v, in(x, data), v);
            x = controls(0x17, v);
            check.due("mode behind mask " + v, x.device(2 + p, 3), 0);
            check.due("vector behind mask " + v, x.device(2 + p, 2), 0);
        }
        check.due("directions once", controls(0xcf, 0x10, 0x20).device(2 + p, 2), 0x20);
        check.due("mask once", controls(0x17, 0x10, 0x20).device(2 + p, 2), 0x20);
    }

    private static void evenBytesAreVectors() {
        check.by("Otherwise, bit 0 = 0: the vector");
        for (int v : new int[] {0, 2, 6, 0x7e, 0x80, 0xfe}) {
            ChainBoard x = controls(0x10, v);
            check.due("vector " + v, x.device(2 + p, 2), v);
            check.due("vector of the other", x.device(3 - p, 2), 0);
            check.due("mode", x.device(2 + p, 3), 0);
        }
    }

    private static void modeByTheHighestBits() {
        check.by("Low half 15: the mode, by the two highest bits (2: as 3)");
        int[] want = {0, 1, 3, 3};
        for (int v = 0x0f; v < 256; v += 16) {
            check.due("mode by " + v, controls(v).device(2 + p, 3), want[v / 64]);
        }
        ChainBoard x = controls(0x8f, 0xf0);
        x.lines(p, 0x33);
        check.due("2 is as 3", in(x, data), 0x30);
    }

    private static void modeMakesNotReady() {
        check.by("and it is not READY");
        for (int v = 0x0f; v < 256; v += 64) {
            ChainBoard x = new ChainBoard();
            out(x, data, 1);
            check.due("ready", x.device(2 + p, 4), 1);
            more(x, v);
            check.due("ready behind " + v, x.device(2 + p, 4), 0);
            x = controls(0x4f);
            in(x, data);
            check.due("ready", x.device(2 + p, 4), 1);
            more(x, v);
            check.due("ready behind " + v, x.device(2 + p, 4), 0);
        }
        ChainBoard x = new ChainBoard();
        out(x, data, 1);
        more(x, 0x10, 0x83, 0x87, 0x97, 0xff, 0x01);
        check.due("ready behind others", x.device(2 + p, 4), 1);
    }

    private static void directionsAreDueWithBits() {
        check.by("with 3 the DIRECTIONS are due (1: an input)");
        for (int v : new int[] {0x00, 0x01, 0x80, 0xff}) {
            ChainBoard x = controls(0xcf, v);
            out(x, data, 0x00);
            x.lines(p, 0xff);
            check.due("inputs by " + v, in(x, data), v);
            out(x, data, 0xff);
            x.lines(p, 0x00);
            check.due("outputs by " + v, in(x, data), v ^ 255);
        }
        check.due("not with 0", controls(0x0f, 0x20).device(2 + p, 2), 0x20);
        check.due("not with 1", controls(0x4f, 0x20).device(2 + p, 2), 0x20);
    }

    private static void permissionAllAndHigh() {
        check.by("Low half 7: bit 7 it may request, bit 6 ALL (not any), bit 5 HIGH (not low)");
        // Lines 3 and 0 are looked at; it is not to hold at first, so the last lines come behind others.
        int[][] rows = {{0x97, 0x09, 0x01, 1}, {0x17, 0x09, 0x01, 0}, {0xb7, 0x00, 0x01, 1}, {0x37, 0x00, 0x01, 0},
            {0xd7, 0x09, 0x01, 0}, {0xd7, 0x09, 0x00, 1}, {0x57, 0x09, 0x00, 0}, {0xf7, 0x00, 0x01, 0},
            {0xf7, 0x00, 0x09, 1}, {0x77, 0x00, 0x09, 0}};
        for (int[] row : rows) {
            ChainBoard x = controls(0xcf, 0xff);
            x.lines(p, row[1]);
            more(x, row[0], 0xf6);
            check.due("before, by " + row[0], requesting(x), 0);
            x.lines(p, row[2]);
            check.due("behind lines " + row[2] + ", by " + row[0], requesting(x), row[3]);
        }
    }

    private static void maskIsDueByBitFour() {
        check.by("bit 4: the MASK is due (1: not looked at)");
        check.due("without bit 4", controls(0x07, 0x20).device(2 + p, 2), 0x20);
        check.due("with bit 4", controls(0x17, 0x20).device(2 + p, 2), 0);
        for (int bit = 0; bit < 8; bit++) {
            ChainBoard x = controls(0xcf, 0xff, 0xb7, 1 << bit);
            x.lines(p, 1 << bit);
            check.due("hidden line " + bit, requesting(x), 0);
            x = controls(0xcf, 0xff, 0xb7, 255 ^ 1 << bit);
            x.lines(p, 255 ^ 1 << bit);
            check.due("all but line " + bit, requesting(x), 0);
            x.lines(p, 1 << bit);
            check.due("line " + bit, requesting(x), 1);
        }
        // Without bit 4 the old mask stays.
        ChainBoard x = controls(0xcf, 0xff, 0xb7, 0xfe, 0xa7);
        x.lines(p, 0xfe);
        check.due("still hidden", requesting(x), 0);
        x.lines(p, 0x01);
        check.due("still looked at", requesting(x), 1);
    }

    private static ChainBoard strobed() {
        ChainBoard x = controls(0x83);
        out(x, data, 1);
        x.strobe(p, 0);
        check.due("requesting", requesting(x), 1);
        return x;
    }

    private static void bitFourTakesBack() {
        check.by("and its request is taken back");
        for (int v : new int[] {0x17, 0x97, 0xf7}) {
            ChainBoard x = strobed();
            more(x, v);
            check.due("behind " + v, requesting(x), 0);
        }
        for (int v : new int[] {0x87, 0xe7, 0x83, 0x0f, 0x4f, 0x20}) {
            ChainBoard x = strobed();
            more(x, v);
            check.due("behind " + v, requesting(x), 1);
        }
        ChainBoard x = strobed();
        out(x, 8 - control, 0x97);
        check.due("by the other", requesting(x), 1);
    }

    private static void permissionAlone() {
        check.by("Low half 3: bit 7 it may request");
        for (int v = 0x03; v < 256; v += 16) {
            ChainBoard x = controls(v);
            out(x, data, 1);
            x.strobe(p, 0);
            check.due("by " + v, requesting(x), v >> 7);
            x = controls(0x83, v);
            out(x, data, 1);
            x.strobe(p, 0);
            check.due("by 83 and " + v, requesting(x), v >> 7);
            check.due("no mask is due by " + v, controls(v, 0x20).device(2 + p, 2), 0x20);
        }
        // ALL and HIGH are not changed by it.
        ChainBoard x = controls(0xcf, 0xff, 0x77, 0xfc, 0x83);
        x.lines(p, 1);
        check.due("all still", requesting(x), 0);
        x.lines(p, 3);
        check.due("high still", requesting(x), 1);
    }

    private static void otherControls() {
        check.by("Others: nothing");
        for (int low : new int[] {1, 5, 9, 11, 13}) {
            for (int high = 0; high < 256; high += 16) {
                ChainBoard x = controls(0x83, 0x46);
                out(x, data, 0x5a);
                more(x, high | low);
                check.due("mode", x.device(2 + p, 3), 0);
                check.due("ready", x.device(2 + p, 4), 1);
                check.due("latch", x.device(2 + p, 5), 0x5a);
                check.due("vector", x.device(2 + p, 2), 0x46);
                x.strobe(p, 0);
                check.due("it may still", requesting(x), 1);
                more(x, high | low, 0x48);
                check.due("nothing is due", x.device(2 + p, 2), 0x48);
                check.due("a request stays", requesting(x), 1);
            }
        }
    }

    private static void outputMakesReady() {
        check.by("OUT to data sets the LATCH, and in mode 0 makes it READY");
        int[][] rows = {{0x0f, 1}, {0x4f, 0}, {0xcf, 0}};
        for (int[] row : rows) {
            for (int v : new int[] {0, 1, 255}) {
                ChainBoard x = controls(row[0]);
                out(x, data, v);
                check.due("latch in " + row[0], x.device(2 + p, 5), v);
                check.due("ready in " + row[0], x.device(2 + p, 4), row[1]);
                check.due("latch of the other", x.device(3 - p, 5), 0);
            }
        }
    }

    private static void inputGivesWhatItsModeSays() {
        check.by("IN from data gives in mode 0 the latch, in 1 the RECEIVED byte, and makes it READY; in 3 the "
                + "LINES where directions are 1, the latch elsewhere");
        ChainBoard x = controls(0x4f);
        check.due("received at first", in(x, data), 0);
        check.due("ready", x.device(2 + p, 4), 1);
        x.strobe(p, 0xe7);
        out(x, data, 0x5a);
        x.lines(p, 0x0f);
        check.due("ready no more", x.device(2 + p, 4), 0);
        check.due("received", in(x, data), 0xe7);
        check.due("ready", x.device(2 + p, 4), 1);
        check.due("received still", in(x, data), 0xe7);
        more(x, 0x0f);
        check.due("latch", in(x, data), 0x5a);
        check.due("not ready by mode 0", x.device(2 + p, 4), 0);
        int[][] rows = {{0x00, 0x5a}, {0xff, 0x0f}, {0xf0, 0x0a}, {0x0f, 0x5f}};
        for (int[] row : rows) {
            more(x, 0xcf, row[0]);
            check.due("by directions " + row[0], in(x, data), row[1]);
            check.due("not ready by mode 3", x.device(2 + p, 4), 0);
        }
        more(x, 0x4f);
        check.due("received, modes later", in(x, data), 0xe7);
    }

    private static void watchesWhatMaskAndDirectionsLeave() {
        check.by("In mode 3 the port watches its lines where the mask is 0 and directions are 1");
        // Directions 0f, mask 33: the lines 2 and 3 alone.
        for (int bit = 0; bit < 8; bit++) {
            ChainBoard x = controls(0xcf, 0x0f, 0xb7, 0x33);
            x.lines(p, 1 << bit);
            check.due("line " + bit, requesting(x), bit == 2 || bit == 3 ? 1 : 0);
        }
    }

    private static void allOrAnyHighOrLow() {
        check.by("the condition holds when all (any) of them are high (low)");
        // Of the lines 7, 4 and 0; the mask comes last, with the lines as they are.
        for (int v = 0x97; v < 256; v += 32) {
            for (int set = 0; set < 8; set++) {
                int lines = (set & 4) << 5 | (set & 2) << 3 | set & 1;
                ChainBoard x = controls(0xcf, 0xff);
                x.lines(p, lines);
                more(x, v, 0x6e);
                int hits = Integer.bitCount((v & 32) != 0 ? set : 7 - set);
                boolean holds = (v & 64) != 0 ? hits == 3 : hits > 0;
                check.due("lines " + lines + " by " + v, requesting(x), holds ? 1 : 0);
            }
        }
    }

    private static void noneToWatch() {
        check.by("and there are any");
        for (int v = 0x97; v < 256; v += 32) {
            for (int lines : new int[] {0, 1, 255}) {
                ChainBoard x = controls(0xcf, 0xff, v, 0xff);
                x.lines(p, lines);
                check.due("all masked, by " + v, requesting(x), 0);
                x = controls(0xcf, 0x00, v, 0x00);
                x.lines(p, lines);
                check.due("no inputs, by " + v, requesting(x), 0);
                x = controls(0xcf, 0x3c, v, 0x3c);
                x.lines(p, lines);
                check.due("inputs masked, by " + v, requesting(x), 0);
            }
        }
    }

    private static void looksWhenLinesCome() {
        check.by("it is looked at when lines come");
        ChainBoard x = controls(0xcf, 0xff, 0xb7, 0x7f);
        check.due("before", requesting(x), 0);
        x.lines(p, 0x7f);
        check.due("not yet", requesting(x), 0);
        x.lines(p, 0x80);
        check.due("at once", requesting(x), 1);
    }

    private static void looksBehindControls() {
        check.by("and behind each byte OUT to control");
        ChainBoard x = controls(0xb7, 0x00, 0xcf);
        x.lines(p, 0x01);
        check.due("before directions", requesting(x), 0);
        more(x, 0x01);
        check.due("behind directions", requesting(x), 1);
        x = controls(0xcf, 0xff, 0xb7);
        x.lines(p, 0x01);
        check.due("before a mask", requesting(x), 0);
        more(x, 0xfe);
        check.due("behind a mask", requesting(x), 1);
        x = controls(0xcf, 0xff, 0xb7, 0x00, 0x0f);
        x.lines(p, 0x01);
        check.due("before a mode", requesting(x), 0);
        more(x, 0xcf);
        check.due("behind a mode", requesting(x), 1);
        x = controls(0xcf, 0xff, 0xb7, 0x00);
        check.due("before low", requesting(x), 0);
        more(x, 0x87);
        check.due("behind low", requesting(x), 1);
        // OUT to data is no such byte, and changes no condition.
        x = controls(0xcf, 0xfe, 0xb7, 0x00);
        out(x, data, 0xff);
        check.due("behind data", requesting(x), 0);
    }

    private static void onlyWhatBeginsToHold() {
        check.by("when it holds, and did not when it was looked at before, the port requests");
        ChainBoard x = controls(0xcf, 0xff, 0xb7, 0x00);
        x.lines(p, 1);
        check.due("begins", requesting(x), 1);
        // The mask's control takes the request back while the condition goes on.
        more(x, 0xb7, 0x00);
        check.due("taken back", requesting(x), 0);
        x.lines(p, 1);
        check.due("goes on", requesting(x), 0);
        x.lines(p, 2);
        check.due("goes on by another line", requesting(x), 0);
        more(x, 0x44);
        check.due("goes on behind a vector", requesting(x), 0);
        x.lines(p, 0);
        check.due("ends", requesting(x), 0);
        x.lines(p, 1);
        check.due("begins again", requesting(x), 1);
        x.lines(p, 0);
        check.due("a request stays when it ends", requesting(x), 1);
    }

    private static void goesOnBehindControls() {
        check.by("when it holds, and did not when it was looked at before (behind each byte OUT to control)");
        int[][] rows = {
            {0xcf}, {0x8f}, {0xcf, 0xff}, {0x8f, 0x01}, {0xb7}, {0xb7, 0xfe}, {0xa7}, {0x83}, {0x03, 0x83},
            {0x00}, {0xfe}, {0x81}, {0xfd}};
        for (int[] row : rows) {
            ChainBoard x = controls(0xcf, 0xff, 0xb7, 0x00);
            x.lines(p, 1);
            more(x, 0xb7, 0x00);
            more(x, row);
            check.due("goes on behind " + row[0] + " of " + row.length, requesting(x), 0);
        }
        // Directions without the line that is high end it, and the same ones as before begin it anew.
        ChainBoard x = controls(0xcf, 0xff, 0xb7, 0x00);
        x.lines(p, 1);
        more(x, 0xb7, 0x00, 0xcf, 0xfe, 0xcf);
        check.due("ended by directions", requesting(x), 0);
        more(x, 0xff);
        check.due("begun anew by directions", requesting(x), 1);
    }

    private static void requestsIfItMay() {
        check.by("the port requests, if it may");
        ChainBoard x = controls(0xcf, 0xff, 0x37, 0x00);
        x.lines(p, 1);
        check.due("may not", requesting(x), 0);
        more(x, 0x83);
        check.due("may, but it held before", requesting(x), 0);
        x.lines(p, 0);
        x.lines(p, 1);
        check.due("may", requesting(x), 1);
    }

    private static void otherModesHoldNothing() {
        check.by("In other modes it does not hold");
        for (int mode : new int[] {0x0f, 0x4f}) {
            ChainBoard x = controls(0xcf, 0xff, 0xb7, 0x00, mode);
            x.lines(p, 1);
            check.due("lines in " + mode, requesting(x), 0);
            more(x, 0xb7, 0x00);
            check.due("controls in " + mode, requesting(x), 0);
            // It held, but not in the mode between: it begins anew.
            x = controls(0xcf, 0xff, 0xb7, 0x00);
            x.lines(p, 1);
            more(x, 0xb7, 0x00, mode);
            check.due("ends by " + mode, requesting(x), 0);
            more(x, 0xcf, 0xff);
            check.due("begins anew", requesting(x), 1);
        }
    }

    private static void atFirst() {
        check.by("Latches, vectors, directions, received bytes and lines are 0 at first, masks 255; no device "
                + "may request, nothing is due, and no condition holds");
        ChainBoard x = new ChainBoard();
        check.due("latch", x.device(2 + p, 5), 0);
        check.due("vector", x.device(2 + p, 2), 0);
        check.due("received", in(controls(0x4f), data), 0);
        check.due("lines", in(controls(0xcf, 0xff), data), 0);
        out(x, data, 0x5a);
        x.lines(p, 0xff);
        more(x, 0xcf);
        check.due("directions", in(x, data), 0x5a);
        x = controls(0xcf, 0xff, 0xa7);
        x.lines(p, 0xff);
        check.due("mask", requesting(x), 0);
        check.due("nothing is due", controls(0x20).device(2 + p, 2), 0x20);
        x = new ChainBoard();
        out(x, data, 1);
        check.due("strobe", x.strobe(p, 0), true);
        check.due("may not request", requesting(x), 0);
        x = controls(0xcf, 0xff, 0xb7);
        x.lines(p, 1);
        more(x, 0x00);
        check.due("no condition held", requesting(x), 1);
        x = new ChainBoard();
        out(x, p, 0x40);
        check.due("no constant is due", x.device(p, 2), 0x40 + 2 * p);
    }

    private static void absentPorts() {
        check.by("IN from 3, 5 and ports that are not there gives 255, OUT to the latter does nothing");
        check.due("IN from 3", in(new ChainBoard(), 3), 255);
        check.due("IN from 5", in(new ChainBoard(), 5), 255);
        for (int port = 6; port < 256; port++) {
            ChainBoard x = new ChainBoard();
            check.due("IN from " + port, in(x, port), 255);
            for (int v : new int[] {0x4f, 0x48, 0x45}) {
                out(x, port, v);
            }
            for (int d = 0; d < 4; d++) {
                for (int what = 0; what < 6; what++) {
                    check.due("device(" + d + ", " + what + ") behind OUT to " + port, x.device(d, what),
                            d == 1 && what == 2 ? 2 : 0);
                }
            }
        }
    }
}
