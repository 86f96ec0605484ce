/** Promises 7, 8 and 13: run, state, passed. */
public final class RunTest {
    private static final Check check = new Check();

    public static void main(String[] args) {
        bounds();
        asLongAsFewerPassed();
        lastInstructionIsWhole();
        halt();
        haltOutlastsSet();
        stop();
        stopHasNoAttention();
        acknowledgementBelongsToItsInstruction();
        passedNumbers();
        check.end();
    }

    private static void counts(String name, ChainBoard x, int clocks, int instructions, int acknowledgements) {
        check.due(name + " passed(0)", x.passed(0), clocks);
        check.due(name + " passed(1)", x.passed(1), instructions);
        check.due(name + " passed(2)", x.passed(2), acknowledgements);
    }

    private static void bounds() {
        ChainBoard x = new ChainBoard();
        for (int n : new int[] {-1, 5001, 5002, 0, -5000, Integer.MIN_VALUE, Integer.MAX_VALUE}) {
            check.due("run(" + n + ")", x.run(n), 0);
        }
        check.due("PC", x.register(9), 0);
        counts("nothing", x, 0, 0, 0);
        check.due("run(5000)", x.run(5000), 5000);
        check.due("PC", x.register(9), 1250);
        counts("run(5000)", x, 5000, 1250, 0);
        check.due("run(4999)", x.run(4999), 5000);
        counts("run(4999)", x, 10000, 2500, 0);
    }

    private static void asLongAsFewerPassed() {
        int[][] rows = {{1, 4}, {3, 4}, {4, 4}, {5, 8}, {8, 8}, {9, 12}};
        for (int[] row : rows) {
            ChainBoard x = new ChainBoard();
            check.due("run(" + row[0] + ")", x.run(row[0]), row[1]);
            check.due("PC", x.register(9), row[1] / 4);
        }
    }

    private static void lastInstructionIsWhole() {
        ChainBoard x = Program.of(0x00, 0xe3, 0x00);
        check.due("run(5)", x.run(5), 23);
        counts("run(5)", x, 23, 2, 0);
        ChainBoard y = Program.of(0xed, 0xb0);
        y.set(1, 0);
        y.set(2, 0x200);
        y.set(3, 0x300);
        check.due("copies", y.run(22), 42);
        check.due("BC", y.register(1), 0xfffe);
    }

    private static void halt() {
        ChainBoard x = Program.of(0x00, 0x76, 0x3c);
        check.due("state at first", x.state(), 0);
        check.due("run(4)", x.run(4), 4);
        check.due("state before HALT", x.state(), 0);
        check.due("run(1)", x.run(1), 4);
        check.due("state in HALT", x.state(), 1);
        check.due("PC", x.register(9), 2);
        check.due("run(0)", x.run(0), 0);
        check.due("run(10)", x.run(10), 12);
        check.due("PC stays", x.register(9), 2);
        check.due("AF stays", x.register(0), 0);
        check.due("state stays", x.state(), 1);
        counts("HALT", x, 20, 5, 0);
        check.due("run(5000)", x.run(5000), 5000);
        counts("HALT", x, 5020, 1255, 0);
    }

    /** Nothing but an acknowledgement ends it. */
    private static void haltOutlastsSet() {
        ChainBoard x = Program.of(0x76, 0x3c);
        x.run(1);
        x.set(9, 1);
        check.due("run", x.run(4), 4);
        check.due("state", x.state(), 1);
        check.due("PC", x.register(9), 1);
        check.due("AF", x.register(0), 0);
    }

    private static void stop() {
        ChainBoard x = Program.of(0x3c, 0x3c, 0xdd, 0x3c);
        check.due("run(100)", x.run(100), 8);
        check.due("state", x.state(), 2);
        check.due("PC", x.register(9), 2);
        check.due("run(100)", x.run(100), 0);
        check.due("run(0)", x.run(0), 0);
        counts("stop", x, 8, 2, 0);
        check.due("poke", x.poke(2, 0), true);
        check.due("peek", x.peek(2), 0);
        check.due("set", x.set(9, 0), true);
        check.due("register", x.register(9), 0);
        check.due("run(100)", x.run(100), 0);
        check.due("state", x.state(), 2);
    }

    private static Program requester() {
        return new Program().out(3, 0x83).out(2, 1);
    }

    /** EI is not followed by a look, and a stop is no instruction that one could come behind. */
    private static void stopHasNoAttention() {
        ChainBoard x = requester().code(0xfb, 0xfd).load();
        Program.steps(x, 4);
        x.strobe(0, 0);
        check.due("run", x.run(100), 4);
        check.due("state", x.state(), 2);
        check.due("PC", x.register(9), 9);
        check.due("enable", x.register(11), 1);
        check.due("requesting", x.device(2, 0), 1);
        check.due("in service", x.device(2, 1), 0);
        counts("stop", x, 40, 5, 0);
        check.due("run", x.run(100), 0);
        check.due("acknowledgements", x.passed(2), 0);
    }

    private static void acknowledgementBelongsToItsInstruction() {
        ChainBoard x = requester().code(0xfb, 0x00, 0x00).load();
        Program.steps(x, 4);
        x.strobe(0, 0);
        check.due("run(8): EI, nothing, acknowledged", x.run(8), 4 + 4 + 13);
        check.due("PC", x.register(9), 0x38);
        counts("acknowledged", x, 36 + 21, 6, 1);
        x = requester().code(0xfb, 0x00, 0x00).load();
        Program.steps(x, 4);
        x.strobe(0, 0);
        check.due("run(4): EI alone", x.run(4), 4);
        check.due("run(5): acknowledged clocks count", x.run(5), 17);
        check.due("PC", x.register(9), 0x38);
        check.due("instructions", x.passed(1), 6);
    }

    private static void passedNumbers() {
        ChainBoard x = new ChainBoard();
        for (int what : new int[] {-1, 3, 4, Integer.MIN_VALUE, Integer.MAX_VALUE}) {
            check.due("passed(" + what + ")", x.passed(what), ChainBoard.NONE);
        }
    }
}
