/** The enable, the modes, the chain, acknowledgements and RETI (promises 5, 7, 8, 12 and 13). */
public final class AttentionTest {
    private static final Check check = new Check();

    public static void main(String[] args) {
        modeOne();
        modeTwo();
        pushComesBeforeTheWord();
        enableWaitsOneInstruction();
        rowOfEnables();
        disableComesInTime();
        noLookBeforeOrTwice();
        orderOfTheChain();
        aheadInterruptsBehindWaits();
        itselfWaits();
        returnTakesTheFirst();
        haltEnds();
        haltWithoutEnable();
        devicesSeeAcknowledgementClocks();
        clocksComeBeforeTheLook();
        check.end();
    }

    /** All four may request: trigger(1) makes 1 request, strobe(p) 2 + p, trigger(0) twice 0. */
    private static Program allMayRequest() {
        return new Program().out(0, 0xc7).out(0, 2).out(1, 0xc7).out(1, 1)
                .out(3, 0x83).out(2, 0).out(5, 0x83).out(4, 0);
    }

    private static final int PREPARED = 16;
    private static final int BEHIND = 4 * 8;

    private static void service(String name, ChainBoard x, String want) {
        StringBuilder got = new StringBuilder();
        for (int d = 0; d < 4; d++) {
            got.append(x.device(d, 0)).append(x.device(d, 1)).append(d < 3 ? " " : "");
        }
        check.due(name + " is " + got + ", due " + want, got.toString().equals(want), true);
    }

    private static void modeOne() {
        ChainBoard x = allMayRequest().code(0xfb, 0x00, 0x00).load();
        Program.steps(x, PREPARED);
        x.set(8, 0x300);
        x.set(10, 0x7f);
        check.due("strobe", x.strobe(0, 0), true);
        service("requested", x, "00 00 10 00");
        check.due("EI", x.run(1), 4);
        check.due("enable", x.register(11), 1);
        check.due("acknowledged", x.run(1), 17);
        service("acknowledged", x, "00 00 01 00");
        check.due("PC", x.register(9), 0x38);
        check.due("enable", x.register(11), 0);
        check.due("SP", x.register(8), 0x2fe);
        check.due("pushed low", x.peek(0x2fe), BEHIND + 2);
        check.due("pushed high", x.peek(0x2ff), 0);
        check.due("acknowledgements", x.passed(2), 1);
        check.due("instructions", x.passed(1), PREPARED + 2);
        check.due("clocks", x.passed(0), PREPARED / 2 * 18 + 21);
    }

    private static void modeTwo() {
        int[] vectors = {0x48, 0x4a, 0x50, 0x60};
        for (int d = 0; d < 4; d++) {
            // Channel 1 has a constant that channel 0 alone can't bring to 0.
            Program p = new Program().out(0, 0xc5).out(0, 1).out(1, 0xc5).out(1, d == 0 ? 200 : 1).out(1, 0x4e)
                    .out(3, 0x83).out(2, 0).out(5, 0x83).out(4, 0).out(3, 0x50).out(5, 0x60)
                    .code(0xed, 0x5e, 0x3e, 0xfd, 0xed, 0x47, 0xfb, 0x00, 0x00);
            p.at(0x100 + vectors[d]).code(0x34 + d, 0x82);
            ChainBoard x = p.load();
            Program.steps(x, 22 + 4);
            check.due("mode", x.register(12), 2);
            check.due("I", x.register(10), 0xfd);
            check.due("vector of " + d, x.device(d, 2), vectors[d]);
            if (d < 2) {
                x.trigger(d);
            } else {
                x.strobe(d - 2, 0);
            }
            check.due("requesting " + d, x.device(d, 0), 1);
            check.due("acknowledged " + d, x.run(1), 23);
            check.due("in service " + d, x.device(d, 1), 1);
            check.due("requesting no more " + d, x.device(d, 0), 0);
            check.due("PC of " + d, x.register(9), 0x8234 + d);
            check.due("pushed", x.peek(1021), 44 + 6 + 2);
            check.due("SP", x.register(8), 0xfffd);
        }
    }

    private static void pushComesBeforeTheWord() {
        ChainBoard x = new Program().out(3, 0x83).out(2, 0).out(3, 0x50)
                .code(0xed, 0x5e, 0xfb, 0x00).at(0x50).code(0x11, 0x02).load();
        Program.steps(x, 8);
        x.set(8, 0x52);
        x.strobe(0, 0);
        check.due("acknowledged", x.run(1), 23);
        check.due("PC is what was pushed", x.register(9), 16);
    }

    private static void enableWaitsOneInstruction() {
        ChainBoard x = allMayRequest().code(0xfb, 0x3c, 0x3c).load();
        Program.steps(x, PREPARED);
        x.strobe(1, 0);
        x.set(0, 0);
        check.due("EI", x.run(1), 4);
        check.due("PC", x.register(9), BEHIND + 1);
        check.due("one more", x.run(1), 17);
        check.due("A", x.register(0) >> 8, 1);
    }

    private static void rowOfEnables() {
        ChainBoard x = allMayRequest().code(0xfb, 0xfb, 0xfb, 0x00).load();
        Program.steps(x, PREPARED);
        x.strobe(1, 0);
        check.due("three EI", Program.steps(x, 3), 12);
        service("behind EI", x, "00 00 00 10");
        check.due("one more", x.run(1), 17);
        service("behind it", x, "00 00 00 01");
    }

    private static void disableComesInTime() {
        ChainBoard x = allMayRequest().code(0xfb, 0xf3, 0x00, 0x00).load();
        Program.steps(x, PREPARED);
        x.strobe(1, 0);
        check.due("EI DI and more", Program.steps(x, 4), 16);
        check.due("enable", x.register(11), 0);
        service("waits", x, "00 00 00 10");
    }

    private static void noLookBeforeOrTwice() {
        ChainBoard x = allMayRequest().code(0xfb, 0x00, 0x3c).at(0x38).code(0xfb, 0x00).load();
        Program.steps(x, PREPARED + 2);
        x.strobe(0, 0);
        x.strobe(1, 0);
        x.set(0, 0);
        check.due("run(0)", x.run(0), 0);
        service("not before an instruction", x, "00 00 10 10");
        check.due("run(1)", x.run(1), 17);
        check.due("A", x.register(0) >> 8, 1);
        service("one of both", x, "00 00 01 10");
        check.due("EI and nothing", Program.steps(x, 2), 8);
        service("the other waits", x, "00 00 01 10");
    }

    private static void orderOfTheChain() {
        ChainBoard x = allMayRequest().code(0xfb, 0x00).at(0x38).code(0xfb, 0xed, 0x4d).load();
        Program.steps(x, PREPARED);
        x.strobe(1, 0);
        x.strobe(0, 0);
        x.trigger(0);
        x.trigger(0);
        service("all request", x, "10 10 10 10");
        Program.steps(x, 2);
        service("first", x, "01 10 10 10");
        String[] want = {"00 01 10 10", "00 00 01 10", "00 00 00 01", "00 00 00 00"};
        for (String row : want) {
            x.run(1);
            check.due("RETI", x.run(1), row.equals(want[3]) ? 14 : 27);
            service("next", x, row);
        }
        check.due("acknowledgements", x.passed(2), 4);
        check.due("PC", x.register(9), BEHIND + 2);
        check.due("SP", x.register(8), 0xffff);
    }

    private static void aheadInterruptsBehindWaits() {
        ChainBoard x = allMayRequest().code(0xfb, 0x00).at(0x38).code(0xfb, 0x00, 0x00).load();
        Program.steps(x, PREPARED);
        x.strobe(0, 0);
        Program.steps(x, 2);
        service("A in service", x, "00 00 01 00");
        x.strobe(1, 0);
        check.due("EI, nothing", Program.steps(x, 2), 8);
        service("B waits", x, "00 00 01 10");
        x.trigger(1);
        check.due("channel 1 does not", x.run(1), 17);
        service("channel 1 does not", x, "00 01 01 10");
        x.trigger(0);
        x.trigger(0);
        Program.steps(x, 2);
        service("channel 0 does not", x, "01 11 01 10");
        check.due("acknowledgements", x.passed(2), 3);
    }

    private static void itselfWaits() {
        ChainBoard x = allMayRequest().code(0xfb, 0x00).at(0x38).code(0xfb, 0x00, 0x00, 0xed, 0x4d).load();
        Program.steps(x, PREPARED);
        x.trigger(1);
        Program.steps(x, 2);
        x.trigger(1);
        service("in service and requesting", x, "00 11 00 00");
        check.due("EI, nothing, nothing", Program.steps(x, 3), 12);
        service("waits", x, "00 11 00 00");
        check.due("RETI, acknowledged again", x.run(1), 27);
        service("again", x, "00 01 00 00");
    }

    private static void returnTakesTheFirst() {
        ChainBoard x = allMayRequest().code(0xfb, 0x00).at(0x38).code(0xfb, 0x00).load();
        Program.steps(x, PREPARED);
        x.strobe(1, 0);
        Program.steps(x, 2);
        x.trigger(1);
        Program.steps(x, 2);
        service("nested", x, "00 01 00 01");
        x.poke4(0x38, 0xed4d0000);
        x.poke(0x3a, 0xed);
        x.poke(0x3b, 0x4d);
        check.due("RETI", x.run(1), 14);
        service("the first", x, "00 00 00 01");
        check.due("RETI leaves the enable", x.register(11), 0);
        check.due("PC", x.register(9), 0x3a);
        check.due("RETI", x.run(1), 14);
        service("the other", x, "00 00 00 00");
        x.set(9, 0x38);
        check.due("RETI with none", x.run(1), 14);
        service("none", x, "00 00 00 00");
        x.trigger(1);
        x.poke(0x100, 0xc9);
        x.set(9, 0x100);
        x.run(1);
        service("RET is no RETI", x, "00 10 00 00");
    }

    private static void haltEnds() {
        ChainBoard x = allMayRequest().code(0xfb, 0x76, 0x00).load();
        Program.steps(x, PREPARED + 2);
        check.due("state", x.state(), 1);
        check.due("waits", x.run(8), 8);
        x.strobe(0, 0);
        check.due("state", x.state(), 1);
        check.due("one more wait", x.run(1), 17);
        check.due("state", x.state(), 0);
        check.due("PC", x.register(9), 0x38);
        check.due("pushed", x.peek(1021), BEHIND + 2);
        check.due("instructions", x.passed(1), PREPARED + 2 + 3);
        x = allMayRequest().code(0xfb, 0x76).load();
        Program.steps(x, PREPARED);
        x.strobe(0, 0);
        check.due("EI, HALT itself", x.run(8), 21);
        check.due("state", x.state(), 0);
        check.due("pushed", x.peek(1021), BEHIND + 2);
    }

    private static void haltWithoutEnable() {
        ChainBoard x = allMayRequest().code(0x76).load();
        Program.steps(x, PREPARED + 1);
        x.strobe(0, 0);
        check.due("waits", x.run(100), 100);
        check.due("state", x.state(), 1);
        service("waits", x, "00 00 10 00");
    }

    private static void devicesSeeAcknowledgementClocks() {
        ChainBoard x = new Program().out(1, 0x25).out(1, 10).out(3, 0x83).out(2, 0).code(0xfb, 0x00).load();
        Program.steps(x, 9);
        x.strobe(0, 0);
        int before = x.device(1, 5);
        check.due("prescaler", before, 11 + 36 + 4);
        x.run(1);
        check.due("prescaler behind 4 + 13", x.device(1, 5), before + 17);
        check.due("in service", x.device(2, 1), 1);
    }

    private static void clocksComeBeforeTheLook() {
        // OUT gives 11 clocks, the next 4, and the one behind it the 16th: that request is seen at once.
        ChainBoard x = new Program().out(0, 0x85).code(0x3e, 1, 0xfb, 0xd3, 0x00, 0x00, 0x00).load();
        Program.steps(x, 4);
        check.due("OUT", x.run(1), 11);
        check.due("prescaler", x.device(0, 5), 11);
        check.due("nothing", x.run(1), 4);
        check.due("prescaler", x.device(0, 5), 15);
        check.due("nothing, acknowledged", x.run(1), 17);
        check.due("prescaler", x.device(0, 5), 3 + 13 - 16);
        service("requests again by the clocks of its own acknowledgement", x, "11 00 00 00");
    }
}
