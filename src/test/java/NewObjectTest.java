/** Promise 1: what a new object is like. */
public final class NewObjectTest {
    private static final Check check = new Check();

    public static void main(String[] args) {
        registersAndCounts();
        memoryIsClear();
        devicesAreQuiet();
        portsGiveZero();
        masksHideAllLines();
        directionsAreOutputs();
        nothingIsDueOrAllowed();
        check.end();
    }

    private static void registersAndCounts() {
        ChainBoard x = new ChainBoard();
        for (int i = 0; i <= 11; i++) {
            check.due("register(" + i + ")", x.register(i), i == 8 ? 0xffff : 0);
        }
        check.due("register(12)", x.register(12), 1);
        check.due("state()", x.state(), 0);
        for (int i = 0; i < 3; i++) {
            check.due("passed(" + i + ")", x.passed(i), 0);
        }
    }

    private static void memoryIsClear() {
        for (int from = 0; from < 1024; from += 256) {
            ChainBoard x = new ChainBoard();
            for (int i = from; i < from + 256; i++) {
                check.due("peek(" + i + ")", x.peek(i), 0);
            }
        }
    }

    private static void devicesAreQuiet() {
        ChainBoard x = new ChainBoard();
        for (int d = 0; d < 4; d++) {
            for (int what = 0; what < 6; what++) {
                // The base of the timer's vectors is 0, so channel 1 has 0 + 2 * 1.
                check.due("device(" + d + ", " + what + ")", x.device(d, what), d == 1 && what == 2 ? 2 : 0);
            }
        }
    }

    private static void portsGiveZero() {
        int[] want = {0, 0, 0, 255, 0, 255, 255};
        for (int port = 0; port < want.length; port++) {
            ChainBoard x = Program.of(0xdb, port);
            x.set(0, 0x7700);
            x.run(1);
            check.due("IN " + port, x.register(0), want[port] << 8);
        }
        for (int port = 3; port <= 5; port += 2) {
            ChainBoard x = new Program().out(port, 0x4f).code(0xdb, port - 1).load();
            Program.steps(x, 3);
            check.due("IN " + (port - 1) + " in mode 1", x.register(0), 0);
            x = new Program().out(port, 0xcf).out(port, 0xff).code(0xdb, port - 1).load();
            Program.steps(x, 5);
            check.due("IN " + (port - 1) + " in mode 3", x.register(0), 0);
        }
    }

    private static void masksHideAllLines() {
        ChainBoard x = new Program().out(3, 0xcf).out(3, 0xff).out(3, 0xa7).load();
        Program.steps(x, 6);
        x.lines(0, 255);
        check.due("requesting behind the first mask", x.device(2, 0), 0);
    }

    private static void directionsAreOutputs() {
        for (int p = 0; p < 2; p++) {
            for (int latch : new int[] {0, 0x5a, 0xff}) {
                ChainBoard x = new Program().out(2 + 2 * p, latch).out(3 + 2 * p, 0xcf).code(0xdb, 2 + 2 * p).load();
                x.lines(p, latch ^ 0xff);
                Program.steps(x, 5);
                check.due("IN before directions", x.register(0), latch << 8);
            }
        }
    }

    private static void nothingIsDueOrAllowed() {
        ChainBoard x = new Program().out(0, 0x40).out(3, 0x22).out(2, 1).load();
        Program.steps(x, 6);
        check.due("the timer's first byte is a base", x.device(0, 2), 0x40);
        check.due("the timer does not run", x.device(0, 4), 0);
        check.due("the port's first byte is a vector", x.device(2, 2), 0x22);
        check.due("strobe", x.strobe(0, 0), true);
        check.due("no port may request", x.device(2, 0), 0);
    }
}
