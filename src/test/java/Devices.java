/** A board whose four devices request whenever they are asked to. */
final class Devices {
    static final int[] VECTORS = {0x48, 0x4a, 0x50, 0x60};

    private static final int SETUP = 0x200;
    private static final int SETUP_OUTS = 15;

    private Devices() {
    }

    /**
     * The code stands at 0 and is next. Channel 0 counts triggers by 1, channel 1 by 8, so that it
     * does not request with channel 0 at once; both ports watch for any high line.
     */
    static ChainBoard prepared(int... code) {
        Program program = new Program().code(code).at(SETUP)
                .out(0, 0xc5).out(0, 1).out(1, 0xc5).out(1, 8).out(0, VECTORS[0]);
        for (int control = 3; control <= 5; control += 2) {
            program.out(control, 0xcf).out(control, 0xff).out(control, 0xb7).out(control, 0x00)
                    .out(control, VECTORS[(control + 1) / 2]);
        }
        ChainBoard x = program.load();
        x.set(9, SETUP);
        Program.steps(x, 2 * SETUP_OUTS);
        x.set(0, 0);
        x.set(9, 0);
        return x;
    }

    static void ask(ChainBoard x, int d) {
        if (d == 0) {
            x.trigger(0);
        } else if (d == 1) {
            for (int i = 0; i < 8 && x.device(1, 0) == 0; i++) {
                x.trigger(1);
            }
        } else {
            x.lines(d - 2, 0);
            x.lines(d - 2, 1);
        }
    }

    /** Asks for d, and has it acknowledged by EI and an instruction at 0x300; PC is the old one then. */
    static void serve(ChainBoard x, int d) {
        int pc = x.register(9);
        int sp = x.register(8);
        x.poke4(0x300, 0xfb000000);
        x.set(9, 0x300);
        ask(x, d);
        Program.steps(x, 2);
        x.set(9, pc);
        x.set(8, sp);
    }
}
