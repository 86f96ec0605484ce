/** The sentences of the promises that name a boundary case, each with a test of its own. */
public final class CallEdgesTest {
    private static final int LEAST = Integer.MIN_VALUE;
    private static final int MOST = Integer.MAX_VALUE;
    private static final Check check = new Check();

    public static void main(String[] args) {
        pokeTakesAddresses();
        pokeTakesLowBits();
        pokeRefuses();
        poke4TakesTheHighestFirst();
        poke4TakesAddresses();
        poke4Refuses();
        peekRefuses();
        registerNumbers();
        registerRefuses();
        setTakesLowBits();
        setRefuses();
        runGoesOnWhileFewerPassed();
        runTakesBounds();
        runRefuses();
        runEndsWithAStop();
        runAnswersClocks();
        acknowledgementBelongsToItsInstruction();
        nothingButInstructionsIsFollowedByALook();
        stateNumbers();
        triggerRefuses();
        strobeInInput();
        strobeInOutput();
        strobeRefuses();
        portsAreNotReady();
        linesTakeLowBits();
        linesRefuse();
        deviceTellsYesOrNo();
        deviceCounts();
        deviceTellsOfPorts();
        deviceRefuses();
        passedCountsSinceTheBeginning();
        passedCountsWaiting();
        passedRefuses();
        lastCallsAnswerToo();
        check.end();
    }

    private static void pokeTakesAddresses() {
        check.by("poke: The byte at an address (0 .. 1023) becomes v: true");
        ChainBoard x = new ChainBoard();
        for (int address : new int[] {0, 1, 1022, 1023}) {
            check.due("poke(" + address + ")", x.poke(address, address & 127 | 1), true);
            check.due("peek(" + address + ")", x.peek(address), address & 127 | 1);
        }
        check.due("peek(2)", x.peek(2), 0);
        check.due("peek(1021)", x.peek(1021), 0);
    }

    private static void pokeTakesLowBits() {
        check.by("poke: v (its low 8 bits)");
        ChainBoard x = new ChainBoard();
        int[][] rows = {{0, 0}, {255, 255}, {256, 0}, {257, 1}, {-1, 255}, {-256, 0}, {LEAST, 0}, {MOST, 255}};
        for (int[] row : rows) {
            check.due("poke", x.poke(7, row[0]), true);
            check.due("peek of " + row[0], x.peek(7), row[1]);
            check.due("the byte before", x.peek(6), 0);
            check.due("the byte behind", x.peek(8), 0);
        }
    }

    private static void pokeRefuses() {
        check.by("poke: false when there is no such address");
        ChainBoard x = new ChainBoard();
        for (int address : new int[] {-1, 1024, -1024, 2047, 65535, LEAST, MOST}) {
            check.due("poke(" + address + ")", x.poke(address, 9), false);
            check.due("peek where it would wrap to", x.peek(address & 1023), 0);
        }
    }

    private static void poke4TakesTheHighestFirst() {
        check.by("poke4: become those of v, the highest first: true");
        for (int v : new int[] {0x01020304, 0xfffefdfc, LEAST, MOST, -1, 0x00800080}) {
            ChainBoard x = new ChainBoard();
            check.due("poke4", x.poke4(100, v), true);
            for (int i = 0; i < 4; i++) {
                check.due("byte " + i + " of " + v, x.peek(100 + i), v >>> 24 - 8 * i & 255);
            }
            check.due("the byte before", x.peek(99), 0);
            check.due("the byte behind", x.peek(104), 0);
        }
    }

    private static void poke4TakesAddresses() {
        check.by("poke4: Four bytes at address, address + 1, .. (all 0 .. 1023)");
        ChainBoard x = new ChainBoard();
        for (int address : new int[] {0, 1, 1019, 1020}) {
            check.due("poke4(" + address + ")", x.poke4(address, 0x11121314), true);
            check.due("its first", x.peek(address), 0x11);
            check.due("its last", x.peek(address + 3), 0x14);
        }
    }

    private static void poke4Refuses() {
        check.by("poke4: false, and nothing changes, when one is not there");
        for (int address : new int[] {-4, -3, -2, -1, 1021, 1022, 1023, 1024, LEAST, MOST, MOST - 3}) {
            ChainBoard x = new ChainBoard();
            check.due("poke4(" + address + ")", x.poke4(address, -1), false);
            for (int i = 0; i < 4; i++) {
                check.due("poke4(" + address + ") at " + i, x.peek(i), 0);
                check.due("poke4(" + address + ") at " + (1020 + i), x.peek(1020 + i), 0);
            }
        }
    }

    private static void peekRefuses() {
        check.by("peek: NONE when there is none");
        ChainBoard x = new ChainBoard();
        x.poke(0, 5);
        x.poke(1023, 6);
        for (int address : new int[] {-1, 1024, -1024, 2047, LEAST, MOST}) {
            check.due("peek(" + address + ")", x.peek(address), -1);
        }
        check.due("peek(0)", x.peek(0), 5);
        check.due("peek(1023)", x.peek(1023), 6);
    }

    private static void registerNumbers() {
        check.by("register: 0 AF, 1 BC, 2 DE, 3 HL, 4 to 7 the second ones, 8 SP, 9 PC, 10 I, 11 the enable, "
                + "12 the mode");
        // A = 11, I = A, BC = 2122, DE = 3132, HL = 4142, D9, 08, mode 2, EI.
        ChainBoard x = Program.of(0x3e, 0x11, 0xed, 0x47, 0x01, 0x22, 0x21, 0x11, 0x32, 0x31, 0x21, 0x42, 0x41,
                0xd9, 0x08, 0xed, 0x5e, 0xfb, 0x3e, 0x51, 0x37, 0x06, 0x61, 0x16, 0x62, 0x26, 0x63);
        Program.steps(x, 14);
        int[] want = {0x5101, 0x6100, 0x6200, 0x6300, 0x1100, 0x2122, 0x3132, 0x4142, 0xffff, 27, 0x11, 1, 2};
        for (int which = 0; which < want.length; which++) {
            check.due("register(" + which + ")", x.register(which), want[which]);
        }
    }

    private static void registerRefuses() {
        check.by("register: NONE for another number");
        ChainBoard x = new ChainBoard();
        for (int which : new int[] {-1, 13, 14, 16, 255, LEAST, MOST}) {
            check.due("register(" + which + ")", x.register(which), -1);
        }
    }

    private static void setTakesLowBits() {
        check.by("set: Sets register 0 .. 10 (low 16 bits; I low 8): true");
        int[] values = {0, 0x10000, 0x1ffff, -1, LEAST, MOST, 0x12abcd};
        for (int which = 0; which <= 10; which++) {
            int bits = which == 10 ? 0xff : which == 0 || which == 4 ? 0xffd7 : 0xffff;
            for (int v : values) {
                ChainBoard x = new ChainBoard();
                check.due("set(" + which + ", " + v + ")", x.set(which, v), true);
                check.due("register(" + which + ") of " + v, x.register(which), v & bits);
                int next = which == 10 ? 0 : which + 1;
                check.due("another one", x.register(next), next == 8 ? 0xffff : 0);
            }
        }
    }

    private static void setRefuses() {
        check.by("set: false for another number");
        ChainBoard x = new ChainBoard();
        for (int which : new int[] {-1, 11, 12, 13, 16, LEAST, MOST}) {
            check.due("set(" + which + ", 2)", x.set(which, 2), false);
        }
        for (int which = 0; which <= 12; which++) {
            check.due("register(" + which + ")", x.register(which), which == 8 ? 0xffff : which == 12 ? 1 : 0);
        }
    }

    private static void runGoesOnWhileFewerPassed() {
        check.by("run: as long as fewer than n clocks passed in this call");
        int[][] rows = {{0, 0}, {1, 4}, {3, 4}, {4, 4}, {5, 8}, {7, 8}, {8, 8}, {9, 12}};
        ChainBoard x = new ChainBoard();
        int passed = 0;
        for (int[] row : rows) {
            check.due("run(" + row[0] + ")", x.run(row[0]), row[1]);
            passed += row[1];
            check.due("PC", x.register(9), passed / 4);
        }
        x = Program.of(0xe3, 0xe3);
        check.due("run(19)", x.run(19), 19);
        check.due("run(20)", x.run(20), 23);
    }

    private static void runTakesBounds() {
        check.by("run: n 0 .. 5000");
        ChainBoard x = new ChainBoard();
        check.due("run(0)", x.run(0), 0);
        check.due("passed(1)", x.passed(1), 0);
        check.due("run(5000)", x.run(5000), 5000);
        check.due("passed(1)", x.passed(1), 1250);
        check.due("run(4997)", x.run(4997), 5000);
    }

    private static void runRefuses() {
        check.by("run: otherwise nothing happens");
        ChainBoard x = Program.of(0x3c);
        for (int n : new int[] {-1, 5001, -5000, 65536, LEAST, MOST}) {
            check.due("run(" + n + ")", x.run(n), 0);
            check.due("A behind run(" + n + ")", x.register(0), 0);
            check.due("PC behind run(" + n + ")", x.register(9), 0);
            check.due("instructions behind run(" + n + ")", x.passed(1), 0);
            check.due("clocks behind run(" + n + ")", x.passed(0), 0);
        }
    }

    private static void runEndsWithAStop() {
        check.by("run: and it is not stopped");
        ChainBoard x = Program.of(0x00, 0xe3, 0xdd);
        check.due("run(5000)", x.run(5000), 23);
        check.due("run(5000) again", x.run(5000), 0);
        check.due("run(1)", x.run(1), 0);
    }

    private static void runAnswersClocks() {
        check.by("run: Answers the clocks that passed");
        ChainBoard x = Program.of(0x00, 0x06, 0x01, 0x03, 0xe3, 0x76);
        check.due("run(1)", x.run(1), 4);
        check.due("run(8)", x.run(8), 7 + 6);
        check.due("run(20)", x.run(20), 19 + 4);
        check.due("run(1)", x.run(1), 4);
        check.due("passed(0)", x.passed(0), 44);
    }

    /** Port A requests as soon as it is strobed; 36 clocks and 4 instructions until then. */
    private static Program requester() {
        return new Program().out(3, 0x83).out(2, 1);
    }

    private static ChainBoard requesting(Program program) {
        ChainBoard x = program.load();
        Program.steps(x, 4);
        x.strobe(0, 0);
        return x;
    }

    private static void acknowledgementBelongsToItsInstruction() {
        check.by("run: An acknowledgement belongs to the instruction that it comes behind");
        ChainBoard x = requesting(requester().code(0xfb, 0x00));
        check.due("run(8)", x.run(8), 21);
        check.due("PC", x.register(9), 0x38);
        x = requesting(requester().code(0xfb, 0x00));
        check.due("run(21)", x.run(21), 21);
        check.due("PC", x.register(9), 0x38);
        x = requesting(requester().code(0xfb, 0x00));
        check.due("run(22)", x.run(22), 25);
        check.due("PC", x.register(9), 0x39);
        check.due("acknowledgements", x.passed(2), 1);
        check.due("instructions", x.passed(1), 7);
    }

    private static void nothingButInstructionsIsFollowedByALook() {
        check.by("run: Nothing but instructions is followed by a look for attention");
        ChainBoard x = requester().code(0xfb, 0x00, 0x3c).load();
        Program.steps(x, 6);
        check.due("strobe", x.strobe(0, 0), true);
        check.due("behind a strobe", x.passed(2), 0);
        check.due("run(0)", x.run(0), 0);
        check.due("run(-1)", x.run(-1), 0);
        check.due("behind no instruction", x.passed(2), 0);
        check.due("PC", x.register(9), 10);
        check.due("run(1)", x.run(1), 17);
        check.due("the instruction came first", x.register(0) >> 8, 2);
        check.due("behind an instruction", x.passed(2), 1);
    }

    private static void stateNumbers() {
        check.by("state: 0 it goes on, 1 halted, 2 stopped");
        ChainBoard x = Program.of(0x00, 0x76);
        check.due("new", x.state(), 0);
        x.run(1);
        check.due("before HALT", x.state(), 0);
        x.run(1);
        check.due("behind HALT", x.state(), 1);
        x.run(5000);
        check.due("long behind HALT", x.state(), 1);
        x = Program.of(0x00, 0xed, 0x00);
        x.run(4);
        check.due("before what is none", x.state(), 0);
        x.run(1);
        check.due("behind it", x.state(), 2);
    }

    private static void triggerRefuses() {
        check.by("trigger: A trigger comes to timer channel k: true; false when there is none such");
        ChainBoard x = new Program().out(0, 0x45).out(0, 9).out(1, 0x45).out(1, 9).load();
        Program.steps(x, 8);
        for (int k : new int[] {-1, 2, 3, 256, LEAST, MOST}) {
            check.due("trigger(" + k + ")", x.trigger(k), false);
            check.due("count of 0", x.device(0, 3), 9);
            check.due("count of 1", x.device(1, 3), 9);
        }
        check.due("trigger(0)", x.trigger(0), true);
        check.due("count of 0", x.device(0, 3), 8);
        check.due("count of 1", x.device(1, 3), 9);
        check.due("trigger(1)", x.trigger(1), true);
        check.due("count of 0", x.device(0, 3), 8);
        check.due("count of 1", x.device(1, 3), 8);
        check.due("trigger of what does not run", new ChainBoard().trigger(1), true);
    }

    private static void strobeInInput() {
        check.by("strobe: in mode 1, when it is READY, the byte v (low 8 bits) is received, it is not ready "
                + "any more, and requests if it may");
        for (int p = 0; p < 2; p++) {
            for (int may = 0; may < 2; may++) {
                int data = 2 + 2 * p;
                ChainBoard x = new Program().out(data + 1, 0x4f).out(data + 1, may << 7 | 3)
                        .code(0xdb, data, 0xdb, data).load();
                Program.steps(x, 4);
                check.due("not ready", x.strobe(p, 0x21), false);
                check.due("no request by a refused one", x.device(2 + p, 0), 0);
                x.run(1);
                check.due("nothing received by a refused one", x.register(0) >> 8, 0);
                check.due("ready", x.device(2 + p, 4), 1);
                check.due("strobe", x.strobe(p, 0x7fffff5a), true);
                check.due("ready no more", x.device(2 + p, 4), 0);
                check.due("requesting", x.device(2 + p, 0), may);
                check.due("strobe again", x.strobe(p, 0x33), false);
                x.run(1);
                check.due("received", x.register(0) >> 8, 0x5a);
            }
        }
    }

    private static void strobeInOutput() {
        check.by("strobe: in mode 0, when it is READY, the byte in the latch is taken: it is not ready any "
                + "more, and requests if it may: true");
        for (int p = 0; p < 2; p++) {
            for (int may = 0; may < 2; may++) {
                int data = 2 + 2 * p;
                ChainBoard x = new Program().out(data + 1, may << 7 | 3).out(data, 0x6b)
                        .out(data + 1, 0x4f).code(0xdb, data).load();
                Program.steps(x, 2);
                check.due("not ready", x.strobe(p, 0x11), false);
                check.due("no request by a refused one", x.device(2 + p, 0), 0);
                Program.steps(x, 2);
                check.due("strobe", x.strobe(p, 0x11), true);
                check.due("ready no more", x.device(2 + p, 4), 0);
                check.due("requesting", x.device(2 + p, 0), may);
                check.due("latch", x.device(2 + p, 5), 0x6b);
                check.due("strobe again", x.strobe(p, 0x22), false);
                Program.steps(x, 3);
                check.due("v is not received", x.register(0) >> 8, 0);
            }
        }
    }

    private static void strobeRefuses() {
        check.by("strobe: False in any other case");
        ChainBoard x = new Program().out(2, 1).out(4, 1).load();
        Program.steps(x, 4);
        for (int p : new int[] {-1, 2, 3, LEAST, MOST}) {
            check.due("strobe(" + p + ")", x.strobe(p, 1), false);
        }
        check.due("A is ready still", x.device(2, 4), 1);
        check.due("B is ready still", x.device(3, 4), 1);
        for (int p = 0; p < 2; p++) {
            int data = 2 + 2 * p;
            x = new Program().out(data + 1, 0xcf).out(data + 1, 0xff).out(data + 1, 0x83).out(data, 1)
                    .code(0xdb, data).load();
            Program.steps(x, 9);
            check.due("strobe in mode 3", x.strobe(p, 1), false);
            check.due("requesting", x.device(2 + p, 0), 0);
        }
    }

    private static void portsAreNotReady() {
        check.by("strobe: Ports are not ready at first, and when their mode is set");
        for (int p = 0; p < 2; p++) {
            check.due("new", new ChainBoard().strobe(p, 1), false);
            for (int mode = 0x0f; mode < 256; mode += 64) {
                ChainBoard x = new Program().out(2 + 2 * p, 1).out(3 + 2 * p, mode).load();
                Program.steps(x, 3);
                check.due("ready", x.device(2 + p, 4), 1);
                x.run(1);
                check.due("ready behind " + mode, x.device(2 + p, 4), 0);
                check.due("strobe behind " + mode, x.strobe(p, 1), false);
            }
        }
    }

    private static void linesTakeLowBits() {
        check.by("lines: The lines of port p (0 A, 1 B) become v (low 8 bits): true");
        for (int p = 0; p < 2; p++) {
            for (int v : new int[] {0, 1, 255, 256, 0x1ff, -1, LEAST, MOST, 0x7a5}) {
                ChainBoard x = new Program().out(3, 0xcf).out(3, 0xff).out(5, 0xcf).out(5, 0xff)
                        .code(0xdb, 2 + 2 * p, 0xdb, 4 - 2 * p).load();
                check.due("lines(" + p + ", " + v + ")", x.lines(p, v), true);
                Program.steps(x, 9);
                check.due("its lines", x.register(0) >> 8, v & 255);
                x.run(1);
                check.due("those of the other", x.register(0) >> 8, 0);
            }
        }
    }

    private static void linesRefuse() {
        check.by("lines: false when there is no such port");
        ChainBoard x = new Program().out(3, 0xcf).out(3, 0xff).out(5, 0xcf).out(5, 0xff)
                .code(0xdb, 2, 0x47, 0xdb, 4).load();
        for (int p : new int[] {-1, 2, 3, 4, LEAST, MOST}) {
            check.due("lines(" + p + ")", x.lines(p, 255), false);
        }
        Program.steps(x, 11);
        check.due("lines of A", x.register(1) >> 8, 0);
        check.due("lines of B", x.register(0) >> 8, 0);
    }

    private static void deviceTellsYesOrNo() {
        check.by("device: what = 0 whether it is requesting (1), 1 whether in service, 2 its vector");
        for (int d = 0; d < 4; d++) {
            ChainBoard x = Devices.prepared(0xfb, 0x00);
            check.due("requesting", x.device(d, 0), 0);
            Devices.ask(x, d);
            check.due("requesting", x.device(d, 0), 1);
            check.due("in service", x.device(d, 1), 0);
            check.due("vector", x.device(d, 2), Devices.VECTORS[d]);
            Program.steps(x, 2);
            check.due("requesting", x.device(d, 0), 0);
            check.due("in service", x.device(d, 1), 1);
        }
    }

    private static void deviceCounts() {
        check.by("device: of a timer channel 3 its count (1 .. 256; 0 before any constant), 4 whether it runs, "
                + "5 the prescaler");
        for (int k = 0; k < 2; k++) {
            ChainBoard x = new Program().out(k, 0x25).out(k, 0).out(k, 0x25).out(k, 1).out(k, 0x25).out(k, 255).load();
            for (int what = 3; what <= 5; what++) {
                check.due("device(" + k + ", " + what + ") of a new one", x.device(k, what), 0);
            }
            int[] counts = {0, 256, 256, 1, 1, 255};
            for (int i = 0; i < 6; i++) {
                Program.steps(x, 2);
                check.due("count", x.device(k, 3), counts[i]);
                check.due("runs", x.device(k, 4), i == 0 ? 0 : 1);
                check.due("prescaler", x.device(k, 5), i == 0 ? 0 : 11);
            }
            check.due("count of the other", x.device(1 - k, 3), 0);
        }
    }

    private static void deviceTellsOfPorts() {
        check.by("device: of a port 3 the mode, 4 whether it is ready, 5 the latch");
        for (int p = 0; p < 2; p++) {
            int data = 2 + 2 * p;
            ChainBoard x = new Program().out(data, 255).out(data + 1, 0x4f).out(data + 1, 0xcf).load();
            int[][] rows = {{0, 1, 255}, {1, 0, 255}, {3, 0, 255}};
            for (int[] row : rows) {
                Program.steps(x, 2);
                for (int i = 0; i < 3; i++) {
                    check.due("device(" + (2 + p) + ", " + (3 + i) + ")", x.device(2 + p, 3 + i), row[i]);
                    check.due("the other", x.device(3 - p, 3 + i), 0);
                }
            }
        }
    }

    private static void deviceRefuses() {
        check.by("device: NONE when there is no such device or what");
        ChainBoard x = new ChainBoard();
        for (int wrong : new int[] {-1, LEAST, MOST}) {
            for (int right = 0; right < 4; right++) {
                check.due("device(" + wrong + ", " + right + ")", x.device(wrong, right), -1);
                check.due("device(" + right + ", " + wrong + ")", x.device(right, wrong), -1);
            }
        }
        for (int right = 0; right < 6; right++) {
            check.due("device(4, " + right + ")", x.device(4, right), -1);
        }
        for (int d = 0; d < 4; d++) {
            check.due("device(" + d + ", 5)", x.device(d, 5), 0);
            check.due("device(" + d + ", 6)", x.device(d, 6), -1);
        }
    }

    private static void passedCountsSinceTheBeginning() {
        check.by("passed: Since the beginning: what = 0 how many clocks passed, 1 how many instructions were "
                + "carried out, 2 how many acknowledgements there were");
        ChainBoard x = requester().code(0xfb, 0x00).at(0x38).code(0xed, 0x4d).load();
        for (int what = 0; what < 3; what++) {
            check.due("passed(" + what + ") of a new one", x.passed(what), 0);
        }
        Program.steps(x, 4);
        x.strobe(0, 0);
        check.due("run", x.run(9), 21);
        check.due("clocks", x.passed(0), 57);
        check.due("instructions", x.passed(1), 6);
        check.due("acknowledgements", x.passed(2), 1);
        x.run(1);
        check.due("clocks", x.passed(0), 71);
        check.due("instructions", x.passed(1), 7);
        check.due("acknowledgements", x.passed(2), 1);
    }

    private static void passedCountsWaiting() {
        check.by("passed: HALT's waiting included");
        ChainBoard x = Program.of(0x76);
        x.run(1);
        check.due("HALT itself", x.passed(1), 1);
        x.run(1);
        check.due("one wait", x.passed(1), 2);
        x.run(5000);
        check.due("many", x.passed(1), 1252);
        check.due("clocks", x.passed(0), 5008);
    }

    private static void passedRefuses() {
        check.by("passed: NONE for another what");
        ChainBoard x = new ChainBoard();
        for (int what : new int[] {-1, 3, 4, LEAST, MOST}) {
            check.due("passed(" + what + ")", x.passed(what), -1);
        }
    }

    private static void lastCallsAnswerToo() {
        check.by("An object is used for at most 512 calls after it has been made");
        ChainBoard x = new ChainBoard();
        for (int i = 0; i < 509; i++) {
            x.run(5000);
        }
        check.due("clocks", x.passed(0), 509 * 5000);
        check.due("instructions", x.passed(1), 509 * 1250);
        check.due("PC", x.register(9), 509 * 1250 & 0xffff);
    }
}
