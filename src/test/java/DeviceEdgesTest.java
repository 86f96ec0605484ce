/** The sentences on attention and devices that name a boundary case, each with a test of its own. */
public final class DeviceEdgesTest {
    private static final Check check = new Check();

    public static void main(String[] args) {
        enableIsOffAtFirst();
        modeIsOneAtFirst();
        lookBehindEach();
        noLookBehindEnable();
        noLookWithoutEnable();
        noneRequesting();
        serviceAheadOrOfItselfHoldsBack();
        firstSuchDevice();
        acknowledgementChanges();
        acknowledgementPushesOverTheEnd();
        acknowledgementEndsHalt();
        modeOneGoesToItsPlace();
        modeTwoGoesByTheWord();
        returnTakesTheFirst();
        returnWithNoneInService();
        haltWaits();
        devicesKnowTheClocks();
        clocksComeBeforeTheLook();
        constantOfZero();
        constantIsTakenOnce();
        constantBeginsAnew();
        baseLosesLowBits();
        requestIsTakenBack();
        triggersNotClocks();
        sixteenOrTwoHundredFiftySix();
        constantBecomesDue();
        runsNoMore();
        controlClearsPrescaler();
        prescalerAtItsEnd();
        prescalerManyTimes();
        onlyWhatRunsCounts();
        countAtItsEnd();
        requestsIfItMay();
        channelZeroTriggersOne();
        countIsReadByItsLowBits();
        check.end();
    }

    private static void enableIsOffAtFirst() {
        check.by("EI and DI set the ENABLE on and off (off at first)");
        ChainBoard x = Program.of(0xfb, 0xfb, 0xf3, 0xf3, 0xfb);
        int[] want = {0, 1, 1, 0, 0, 1};
        for (int on : want) {
            check.due("register(11)", x.register(11), on);
            x.run(1);
        }
    }

    private static void modeIsOneAtFirst() {
        check.by("the mode is 1 at first");
        ChainBoard x = Program.of(0xed, 0x5e, 0xed, 0x56);
        int[] want = {1, 2, 1};
        for (int mode : want) {
            check.due("register(12)", x.register(12), mode);
            x.run(1);
        }
        x = Devices.prepared(0xfb, 0x00);
        Devices.ask(x, 0);
        Program.steps(x, 2);
        check.due("PC", x.register(9), 0x38);
    }

    private static void lookBehindEach() {
        check.by("Behind each instruction");
        for (int code = 0; code < 256; code++) {
            // EI and DI leave no look; three are none, and two need a second byte.
            if (code != 0xfb && code != 0xf3 && code != 0x27 && code != 0xdd && code != 0xfd && code != 0xed) {
                lookBehind(code, 0x80);
            }
            if (code < 0x30 || code > 0x37) {
                lookBehind(0xcb, code);
            }
        }
        for (int second : new int[] {0x42, 0x52, 0x62, 0x72, 0x4a, 0x5a, 0x6a, 0x7a, 0x44, 0x47, 0x4d, 0x56,
            0xa0, 0xb0}) {
            lookBehind(0xed, second);
        }
    }

    /** With no flag and with all of them, so that every condition is once met and once not. */
    private static void lookBehind(int first, int second) {
        lookBehind(first, second, 0x0000, 0x0303);
        lookBehind(first, second, 0x00ff, 0x0103);
        lookBehind(first, second, 0x00ff, 0x0001);
    }

    private static void lookBehind(int first, int second, int af, int bc) {
        ChainBoard x = Devices.prepared(0xfb);
        x.set(0, af);
        x.poke(1, first);
        x.poke(2, second);
        x.poke(3, 0x03);
        x.set(1, bc);
        x.set(3, 0x0340);
        x.set(8, 0x0350);
        Devices.ask(x, 1);
        x.run(5);
        check.due("acknowledgements behind " + first + " " + second, x.passed(2), 1);
        check.due("in service behind " + first + " " + second, x.device(1, 1), 1);
    }

    private static void noLookBehindEnable() {
        check.by("(but EI)");
        ChainBoard x = Devices.prepared(0xfb, 0xfb, 0x00);
        Devices.ask(x, 2);
        check.due("EI", x.run(1), 4);
        check.due("EI again", x.run(1), 4);
        check.due("acknowledgements", x.passed(2), 0);
        check.due("the one behind", x.run(1), 17);
        check.due("acknowledgements", x.passed(2), 1);
        // DI behind EI is an instruction too, and the enable is off then.
        x = Devices.prepared(0xfb, 0xf3, 0x00);
        Devices.ask(x, 2);
        check.due("EI, DI and one more", Program.steps(x, 3), 12);
        check.due("acknowledgements", x.passed(2), 0);
    }

    private static void noLookWithoutEnable() {
        check.by("when the enable is on");
        ChainBoard x = Devices.prepared(0x00, 0x00, 0xfb, 0x00);
        for (int d = 0; d < 4; d++) {
            Devices.ask(x, d);
        }
        check.due("off", Program.steps(x, 2), 8);
        check.due("acknowledgements", x.passed(2), 0);
        check.due("on", Program.steps(x, 2), 21);
        check.due("acknowledgements", x.passed(2), 1);
    }

    private static void noneRequesting() {
        check.by("there is a device that is requesting");
        ChainBoard x = Devices.prepared(0xfb, 0x00, 0x00);
        check.due("none", Program.steps(x, 3), 12);
        check.due("enable", x.register(11), 1);
        check.due("PC", x.register(9), 3);
        check.due("acknowledgements", x.passed(2), 0);
    }

    private static void serviceAheadOrOfItselfHoldsBack() {
        check.by("while none ahead of it in the chain, and not itself, is in service");
        for (int serving = 0; serving < 4; serving++) {
            for (int asking = 0; asking < 4; asking++) {
                ChainBoard x = Devices.prepared(0xfb, 0x00);
                Devices.serve(x, serving);
                Devices.ask(x, asking);
                boolean free = asking < serving;
                String name = serving + " in service, " + asking + " requests: ";
                check.due(name + "run", x.run(8), free ? 21 : 8);
                check.due(name + "requesting", x.device(asking, 0), free ? 0 : 1);
                check.due(name + "in service", x.device(asking, 1), free || asking == serving ? 1 : 0);
                check.due(name + "in service still", x.device(serving, 1), 1);
                check.due(name + "enable", x.register(11), free ? 0 : 1);
            }
        }
    }

    private static void firstSuchDevice() {
        check.by("the first such device is ACKNOWLEDGED");
        for (int set = 1; set < 16; set++) {
            ChainBoard x = Devices.prepared(0xfb, 0x00);
            for (int d = 3; d >= 0; d--) {
                if ((set >> d & 1) == 1) {
                    Devices.ask(x, d);
                }
            }
            x.run(8);
            int first = Integer.numberOfTrailingZeros(set);
            for (int d = 0; d < 4; d++) {
                check.due("of " + set + " in service " + d, x.device(d, 1), d == first ? 1 : 0);
                check.due("of " + set + " requesting " + d, x.device(d, 0), d == first ? 0 : set >> d & 1);
            }
            check.due("acknowledgements", x.passed(2), 1);
        }
    }

    private static void acknowledgementChanges() {
        check.by("it requests no more and is in service, the enable is off, PC is pushed");
        for (int d = 0; d < 4; d++) {
            ChainBoard x = Devices.prepared(0xfb, 0x00);
            Devices.ask(x, d);
            x.set(8, 0x300);
            x.run(8);
            check.due("requesting", x.device(d, 0), 0);
            check.due("in service", x.device(d, 1), 1);
            check.due("enable", x.register(11), 0);
            check.due("SP", x.register(8), 0x2fe);
            check.due("pushed, low", x.peek(0x2fe), 2);
            check.due("pushed, high", x.peek(0x2ff), 0);
        }
    }

    private static void acknowledgementPushesOverTheEnd() {
        check.by("PC is pushed");
        ChainBoard x = Devices.prepared();
        x.poke(1023, 0xfb);
        Devices.ask(x, 0);
        x.set(8, 1);
        x.set(9, 0xfeff | 0x100);
        x.run(8);
        check.due("SP", x.register(8), 0xffff);
        check.due("low at 1023", x.peek(1023), 1);
        check.due("high at 0", x.peek(0), 0);
        x = Devices.prepared();
        x.poke(0x2f0, 0xfb);
        Devices.ask(x, 0);
        x.set(8, 0);
        x.set(9, 0xbaf0);
        x.run(8);
        check.due("SP", x.register(8), 0xfffe);
        check.due("low at 1022", x.peek(1022), 0xf2);
        check.due("high at 1023", x.peek(1023), 0xba);
    }

    private static void acknowledgementEndsHalt() {
        check.by("a HALT ends");
        ChainBoard x = Devices.prepared(0xfb, 0x76);
        x.run(100);
        check.due("state", x.state(), 1);
        Devices.ask(x, 3);
        check.due("state before an instruction", x.state(), 1);
        check.due("wait, acknowledged", x.run(1), 17);
        check.due("state", x.state(), 0);
        check.due("pushed", x.peek(1021), 2);
        // The HALT itself is an instruction with a look behind it.
        x = Devices.prepared(0xfb, 0x76);
        Devices.ask(x, 3);
        check.due("EI, HALT, acknowledged", x.run(8), 21);
        check.due("state", x.state(), 0);
        check.due("pushed", x.peek(1021), 2);
    }

    private static void modeOneGoesToItsPlace() {
        check.by("in mode 1 it goes to 0x38, 13 clocks");
        for (int d = 0; d < 4; d++) {
            ChainBoard x = Devices.prepared(0xfb, 0x00);
            x.set(10, 0xff);
            Devices.ask(x, d);
            check.due("clocks", x.run(5), 8 + 13);
            check.due("PC", x.register(9), 0x38);
        }
    }

    private static void modeTwoGoesByTheWord() {
        check.by("in mode 2 to the word at I * 256 + the device's VECTOR, 19 clocks");
        for (int page : new int[] {0, 1, 3, 4, 255}) {
            for (int d = 0; d < 4; d++) {
                ChainBoard x = Devices.prepared(0xed, 0x5e, 0xfb, 0x00);
                int at = page * 256 + Devices.VECTORS[d] & 1023;
                x.poke(at, 0xfe);
                x.poke(at + 1, 0xa0 + d);
                x.set(10, page);
                Devices.ask(x, d);
                check.due("clocks", x.run(13), 16 + 19);
                check.due("PC by " + page + " of " + d, x.register(9), 0xa0fe + 256 * d);
            }
        }
        // The highest vectors that there are.
        for (int d = 1; d < 3; d++) {
            ChainBoard x = Devices.prepared(0x3e, 0xfe, 0xd3, d == 1 ? 1 : 3, 0xed, 0x5e, 0xfb, 0x00);
            int vector = d == 1 ? 0xfa : 0xfe;
            x.set(10, 0xff);
            x.poke(0x300 + vector, 0x33);
            x.poke(0x301 + vector, 0x44);
            x.set(8, 0x100);
            Devices.ask(x, d);
            Program.steps(x, 5);
            check.due("vector", x.device(d, 2), vector);
            check.due("PC", x.register(9), 0x4433);
        }
    }

    private static void returnTakesTheFirst() {
        check.by("RETI also takes the first device of the chain that is in service out of it");
        ChainBoard x = Devices.prepared(0xed, 0x4d);
        for (int d = 3; d >= 0; d--) {
            Devices.serve(x, d);
        }
        for (int d = 0; d < 4; d++) {
            check.due("RETI", x.run(1), 14);
            for (int other = 0; other < 4; other++) {
                check.due("in service " + other, x.device(other, 1), other <= d ? 0 : 1);
            }
            x.set(9, 0);
        }
        // RET leaves it there.
        x = Devices.prepared(0xc9);
        Devices.serve(x, 2);
        x.run(1);
        check.due("in service behind RET", x.device(2, 1), 1);
    }

    private static void returnWithNoneInService() {
        check.by("RETI: RET, and see below 14");
        ChainBoard x = Devices.prepared(0xed, 0x4d);
        Devices.ask(x, 1);
        x.set(8, 0x100);
        x.poke4(0x100, 0xcdab0000);
        check.due("RETI", x.run(1), 14);
        check.due("PC", x.register(9), 0xabcd);
        check.due("SP", x.register(8), 0x102);
        check.due("enable", x.register(11), 0);
        check.due("a request stays", x.device(1, 0), 1);
        for (int d = 0; d < 4; d++) {
            check.due("in service " + d, x.device(d, 1), 0);
        }
    }

    private static void haltWaits() {
        check.by("After HALT (PC is behind it) 4 clocks pass again and again, each time as an instruction");
        ChainBoard x = new ChainBoard();
        x.poke(1023, 0x76);
        x.poke(0, 0x3c);
        x.set(9, 0xffff);
        check.due("HALT", x.run(1), 4);
        check.due("PC", x.register(9), 0);
        check.due("waits", x.run(9), 12);
        check.due("PC", x.register(9), 0);
        check.due("A", x.register(0), 0);
        check.due("instructions", x.passed(1), 4);
        // The timer sees these clocks, and a look comes behind each.
        x = new Program().out(0, 0xa5).out(0, 1).code(0xfb, 0x76).load();
        Program.steps(x, 6);
        check.due("waits to the last", x.run(236), 236);
        check.due("prescaler", x.device(0, 5), 255);
        check.due("acknowledgements", x.passed(2), 0);
        check.due("acknowledged", x.run(1), 17);
        check.due("acknowledgements", x.passed(2), 1);
    }

    private static void devicesKnowTheClocks() {
        check.by("DEVICES come to know of the clocks behind each instruction and each acknowledgement");
        ChainBoard x = new Program().out(1, 0x25).out(1, 9).out(3, 0x83).out(2, 0).code(0xfb, 0x00).load();
        Program.steps(x, 8);
        x.strobe(0, 0);
        check.due("prescaler", x.device(1, 5), 11 + 36);
        x.run(1);
        check.due("behind EI", x.device(1, 5), 11 + 36 + 4);
        x.run(1);
        check.due("behind an acknowledgement", x.device(1, 5), 11 + 36 + 8 + 13);
        // A stop takes no clocks.
        x = new Program().out(1, 0x25).out(1, 9).code(0xdd).load();
        x.run(100);
        check.due("behind a stop", x.device(1, 5), 11);
    }

    private static void clocksComeBeforeTheLook() {
        check.by("(before attention is looked at)");
        // 11 clocks by OUT, then 5: the 16th comes with the instruction behind which it is seen.
        ChainBoard x = new Program().out(0, 0x85).code(0x3e, 1, 0xfb, 0xd3, 0, 0xc0).load();
        Program.steps(x, 4);
        x.set(0, 0x0140);
        check.due("OUT", x.run(1), 11);
        check.due("prescaler", x.device(0, 5), 11);
        check.due("acknowledged at once", x.run(1), 5 + 13);
        check.due("in service", x.device(0, 1), 1);
        check.due("prescaler", x.device(0, 5), 13);
    }

    private static void channel(String name, ChainBoard x, int k, int requesting, int count, int runs, int prescaler) {
        check.due(name + ": " + k + " requesting", x.device(k, 0), requesting);
        check.due(name + ": " + k + " count", x.device(k, 3), count);
        check.due(name + ": " + k + " runs", x.device(k, 4), runs);
        check.due(name + ": " + k + " prescaler", x.device(k, 5), prescaler);
    }

    private static ChainBoard outs(int k, int... bytes) {
        Program program = new Program();
        for (int b : bytes) {
            program.out(k, b);
        }
        ChainBoard x = program.load();
        Program.steps(x, 2 * bytes.length);
        return x;
    }

    private static void constantOfZero() {
        check.by("A byte OUT to it, when a CONSTANT is due, is that (0 means 256)");
        for (int k = 0; k < 2; k++) {
            channel("0", outs(k, 0x45, 0), k, 0, 256, 1, 0);
            channel("1", outs(k, 0x45, 1), k, 0, 1, 1, 0);
            channel("255", outs(k, 0x45, 255), k, 0, 255, 1, 0);
            check.due("no base", outs(k, 0x45, 0xf8).device(k, 2), 2 * k);
            // 256 falls until it is 256 again.
            ChainBoard x = outs(k, 0xc5, 0);
            for (int i = 0; i < 255; i++) {
                x.trigger(k);
            }
            channel("the last", x, k, 0, 1, 1, 0);
            x.trigger(k);
            channel("256 again", x, k, 1, 256, 1, 0);
        }
    }

    private static void constantIsTakenOnce() {
        check.by("and nothing is due");
        for (int k = 0; k < 2; k++) {
            ChainBoard x = outs(k, 0x45, 9, 0x40);
            channel("a base", x, k, 0, 9, 1, 0);
            check.due("vector", x.device(k, 2), 0x40 + 2 * k);
            channel("a control", outs(k, 0x45, 9, 0x43), k, 0, 9, 0, 0);
        }
    }

    private static void constantBeginsAnew() {
        check.by("the count becomes it, the prescaler 0, the channel RUNS");
        for (int k = 0; k < 2; k++) {
            channel("due", outs(k, 0x25), k, 0, 0, 0, 0);
            channel("first", outs(k, 0x25, 200), k, 0, 200, 1, 11);
            // Its own 11 clocks are all that the prescaler has behind the second.
            channel("second", outs(k, 0x25, 200, 0x25, 7), k, 0, 7, 1, 11);
            channel("runs again", outs(k, 0x25, 200, 0x27, 7), k, 0, 7, 1, 11);
        }
    }

    private static void baseLosesLowBits() {
        check.by("with bit 0 = 0 it is the base (byte & 248) of the vectors of both channels (base + 2 * k is "
                + "that of channel k; 0 at first)");
        check.due("vector 0 of a new one", new ChainBoard().device(0, 2), 0);
        check.due("vector 1 of a new one", new ChainBoard().device(1, 2), 2);
        for (int k = 0; k < 2; k++) {
            for (int v : new int[] {0, 2, 6, 8, 0x7e, 0x80, 0xf8, 0xfe}) {
                ChainBoard x = outs(k, 0xf0, v);
                check.due("vector 0 of " + v, x.device(0, 2), v & 248);
                check.due("vector 1 of " + v, x.device(1, 2), (v & 248) + 2);
            }
        }
    }

    private static void requestIsTakenBack() {
        check.by("bit 7 it may request (if not, its request is taken back)");
        for (int k = 0; k < 2; k++) {
            ChainBoard x = new Program().out(k, 0xc5).out(k, 1).out(k, 0xc1).out(k, 0x41).out(k, 0xc1).load();
            Program.steps(x, 4);
            x.trigger(k);
            channel("requests", x, k, 1, 1, 1, 0);
            Program.steps(x, 2);
            channel("may: it stays", x, k, 1, 1, 1, 0);
            Program.steps(x, 2);
            channel("may not: taken back", x, k, 0, 1, 1, 0);
            x.trigger(k);
            channel("may not", x, k, 0, 1, 1, 0);
            Program.steps(x, 2);
            channel("may again: no old request", x, k, 0, 1, 1, 0);
        }
        // What one channel may is not what the other may.
        ChainBoard x = new Program().out(0, 0xc5).out(0, 1).out(1, 0x45).out(1, 1).load();
        Program.steps(x, 8);
        x.trigger(0);
        channel("may", x, 0, 1, 1, 1, 0);
        channel("may not", x, 1, 0, 1, 1, 0);
    }

    private static void triggersNotClocks() {
        check.by("bit 6 it counts TRIGGERS, not clocks");
        for (int k = 0; k < 2; k++) {
            ChainBoard x = outs(k, 0x45, 5);
            x.run(1000);
            channel("clocks", x, k, 0, 5, 1, 0);
            x.trigger(k);
            channel("a trigger", x, k, 0, 4, 1, 0);
            x = outs(k, 0x05, 5);
            x.trigger(k);
            channel("a trigger of what counts clocks", x, k, 0, 5, 1, 11);
            x.run(8);
            channel("clocks", x, k, 0, 4, 1, 3);
        }
    }

    private static void sixteenOrTwoHundredFiftySix() {
        check.by("bit 5 by 256 clocks, not 16");
        for (int k = 0; k < 2; k++) {
            ChainBoard x = outs(k, 0x05, 5);
            x.run(100);
            channel("16", x, k, 0, 5 - 111 / 16 + 5, 1, 111 % 16);
            x = outs(k, 0x25, 5);
            x.run(100);
            channel("256", x, k, 0, 5, 1, 111);
            x.run(400);
            channel("256", x, k, 0, 4, 1, 511 - 256);
            x.run(4);
            channel("256", x, k, 0, 3, 1, 515 - 512);
        }
    }

    private static void constantBecomesDue() {
        check.by("bit 2 a constant is due");
        for (int k = 0; k < 2; k++) {
            channel("due", outs(k, 0x45, 0x48), k, 0, 0x48, 1, 0);
            ChainBoard x = outs(k, 0x41, 0x48);
            channel("not due", x, k, 0, 0, 0, 0);
            check.due("a base", x.device(k, 2), 0x48 + 2 * k);
            // It runs on with the old one while a new one is due.
            x = outs(k, 0x45, 2, 0x45);
            x.trigger(k);
            x.trigger(k);
            channel("the old one", x, k, 0, 2, 1, 0);
        }
    }

    private static void runsNoMore() {
        check.by("bit 1 it runs no more");
        for (int k = 0; k < 2; k++) {
            ChainBoard x = outs(k, 0x45, 5, 0x43);
            x.trigger(k);
            channel("no triggers", x, k, 0, 5, 0, 0);
            x = outs(k, 0x25, 5, 0x23);
            x.run(1000);
            channel("no clocks", x, k, 0, 5, 0, 0);
            x = outs(k, 0x45, 5, 0x41);
            channel("without bit 1", x, k, 0, 5, 1, 0);
            x = outs(k, 0x45, 5, 0x43, 0x41);
            channel("nor does it begin by a control", x, k, 0, 5, 0, 0);
        }
    }

    private static void controlClearsPrescaler() {
        check.by("and the prescaler becomes 0");
        for (int k = 0; k < 2; k++) {
            channel("a control", outs(k, 0x25, 5, 0x21), k, 0, 5, 1, 11);
            channel("a base", outs(k, 0x25, 5, 0x20), k, 0, 5, 1, 29);
            channel("to triggers", outs(k, 0x25, 5, 0x61), k, 0, 5, 1, 0);
            channel("to an end", outs(k, 0x25, 5, 0x23), k, 0, 5, 0, 0);
            channel("from 256 to 16", outs(k, 0x25, 5, 0x01), k, 0, 5, 1, 11);
        }
    }

    /** A board that has given channel k just so many clocks behind its constant: 11 and more by these codes. */
    private static ChainBoard clocked(int k, int control, int constant, int... codes) {
        ChainBoard x = new Program().out(k, control).out(k, constant).code(codes).load();
        Program.steps(x, 4);
        x.set(0, 0x40);
        Program.steps(x, codes.length);
        return x;
    }

    private static void prescalerAtItsEnd() {
        check.by("at 16 (or 256, or when it is above) it is 0, and the count falls by 1");
        for (int k = 0; k < 2; k++) {
            channel("15", clocked(k, 0x05, 9, 0x00), k, 0, 9, 1, 15);
            channel("16", clocked(k, 0x05, 9, 0xc0), k, 0, 8, 1, 0);
            channel("17", clocked(k, 0x05, 9, 0x03), k, 0, 8, 1, 1);
            ChainBoard x = clocked(k, 0x25, 9);
            x.run(240);
            channel("251", x, k, 0, 9, 1, 251);
            x.poke(x.register(9), 0x00);
            x.run(1);
            channel("255", x, k, 0, 9, 1, 255);
            x = clocked(k, 0x25, 9);
            x.run(240);
            x.poke(x.register(9), 0xc0);
            x.run(1);
            channel("256", x, k, 0, 8, 1, 0);
            x = clocked(k, 0x25, 9);
            x.run(240);
            x.poke(x.register(9), 0x03);
            x.run(1);
            channel("257", x, k, 0, 8, 1, 1);
        }
    }

    private static void prescalerManyTimes() {
        check.by("the prescaler grows by 1 each clock");
        for (int k = 0; k < 2; k++) {
            // 15 clocks, then 19 at once: 34 are two falls and 2 more.
            channel("34", clocked(k, 0x05, 9, 0x00, 0xe3), k, 0, 7, 1, 2);
            channel("34 by 1", clocked(k, 0x85, 1, 0x00, 0xe3), k, 1, 1, 1, 2);
            channel("34 by 2", clocked(k, 0x85, 2, 0x00, 0xe3), k, 1, 2, 1, 2);
            channel("34 by 3", clocked(k, 0x85, 3, 0x00, 0xe3), k, 0, 1, 1, 2);
        }
    }

    private static void onlyWhatRunsCounts() {
        check.by("While it runs and counts clocks; when it runs and counts triggers, the count falls by 1 at each");
        for (int k = 0; k < 2; k++) {
            ChainBoard x = outs(k, 0xc5);
            x.trigger(k);
            channel("a trigger before any constant", x, k, 0, 0, 0, 0);
            x = outs(k, 0x85);
            x.run(1000);
            channel("clocks before any constant", x, k, 0, 0, 0, 0);
            x = outs(k, 0xc5, 3);
            x.trigger(k);
            channel("one", x, k, 0, 2, 1, 0);
            x.trigger(k);
            channel("two", x, k, 0, 1, 1, 0);
        }
    }

    private static void countAtItsEnd() {
        check.by("When it comes to 0, it is the constant again");
        for (int k = 0; k < 2; k++) {
            for (int constant : new int[] {1, 2, 5}) {
                ChainBoard x = outs(k, 0xc5, constant);
                for (int i = 1; i < constant; i++) {
                    x.trigger(k);
                    channel("falls", x, k, 0, constant - i, 1, 0);
                }
                x.trigger(k);
                channel("again", x, k, 1, constant, 1, 0);
            }
        }
    }

    private static void requestsIfItMay() {
        check.by("the channel requests if it may");
        for (int k = 0; k < 2; k++) {
            ChainBoard x = outs(k, 0x45, 1);
            x.trigger(k);
            channel("may not, by triggers", x, k, 0, 1, 1, 0);
            channel("may not, by clocks", clocked(k, 0x05, 1, 0xc0), k, 0, 1, 1, 0);
            channel("may, by clocks", clocked(k, 0x85, 1, 0xc0), k, 1, 1, 1, 0);
            x = outs(k, 0xc5, 1);
            x.trigger(k);
            channel("may, by triggers", x, k, 1, 1, 1, 0);
            check.due("not in service", x.device(k, 1), 0);
        }
    }

    private static void channelZeroTriggersOne() {
        check.by("and channel 0 gives channel 1 a trigger (at once)");
        ChainBoard x = new Program().out(1, 0xc5).out(1, 2).out(0, 0x45).out(0, 2).load();
        Program.steps(x, 8);
        int[][] rows = {{1, 2, 0}, {2, 1, 0}, {1, 1, 0}, {2, 2, 1}};
        for (int[] row : rows) {
            x.trigger(0);
            channel("channel 0", x, 0, 0, row[0], 1, 0);
            channel("channel 1", x, 1, row[2], row[1], 1, 0);
        }
        // Two by the clocks of one instruction; none for what counts clocks, none back to channel 0.
        x = new Program().out(1, 0x45).out(1, 9).out(0, 0x05).out(0, 1).code(0x00, 0xe3).load();
        Program.steps(x, 10);
        channel("by clocks", x, 1, 0, 7, 1, 0);
        x = new Program().out(1, 0x25).out(1, 9).out(0, 0x45).out(0, 1).load();
        Program.steps(x, 8);
        x.trigger(0);
        channel("counts clocks", x, 1, 0, 9, 1, 47);
        x = new Program().out(1, 0x45).out(1, 1).out(0, 0x45).out(0, 9).load();
        Program.steps(x, 8);
        x.trigger(1);
        channel("none back", x, 0, 0, 9, 1, 0);
    }

    private static void countIsReadByItsLowBits() {
        check.by("IN gives the count (its low 8 bits)");
        int[][] rows = {{0, 0}, {1, 1}, {255, 255}, {128, 128}};
        for (int k = 0; k < 2; k++) {
            for (int[] row : rows) {
                ChainBoard x = new Program().out(k, 0x45).out(k, row[0]).code(0x3e, 0x77, 0xdb, k).load();
                Program.steps(x, 6);
                check.due("IN of " + row[0], x.register(0) >> 8, row[1]);
            }
            ChainBoard x = Program.of(0x3e, 0x77, 0xdb, k);
            Program.steps(x, 2);
            check.due("IN before any constant", x.register(0) >> 8, 0);
        }
    }
}
