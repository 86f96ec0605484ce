/** Promises 9 and 12 for the timer chip: trigger, device 0 and 1, and ports 0 and 1. */
public final class TimerTest {
    private static final Check check = new Check();

    public static void main(String[] args) {
        for (int k = 0; k < 2; k++) {
            constants(k);
            constantComesFirst(k);
            bases(k);
            clocks(k);
            slowClocks(k);
            manyFallsAtOnce(k);
            triggers(k);
            mayRequest(k);
            controls(k);
            countIsRead(k);
            everyControl(k);
        }
        chained();
        chainedByTriggers();
        channelOneGivesNone();
        wrongNumbers();
        check.end();
    }

    private static void channel(String name, ChainBoard x, int k, int requesting, int count, int runs, int prescaler) {
        check.due(name + ": " + k + " requesting", x.device(k, 0), requesting);
        check.due(name + ": " + k + " count", x.device(k, 3), count);
        check.due(name + ": " + k + " runs", x.device(k, 4), runs);
        check.due(name + ": " + k + " prescaler", x.device(k, 5), prescaler);
    }

    private static void constants(int k) {
        for (int v : new int[] {0, 1, 2, 0x7f, 0x80, 0xff}) {
            ChainBoard x = new Program().out(k, 0x45).out(k, v).load();
            Program.steps(x, 3);
            channel("due", x, k, 0, 0, 0, 0);
            x.run(1);
            channel("constant " + v, x, k, 0, v == 0 ? 256 : v, 1, 0);
            channel("the other", x, 1 - k, 0, 0, 0, 0);
        }
    }

    /** When a constant is due, even what looks like a base or a control is it; and once only. */
    private static void constantComesFirst(int k) {
        ChainBoard x = new Program().out(k, 0x45).out(k, 0x48).out(k, 0x50).out(k, 0x45).out(k, 0x03).load();
        Program.steps(x, 4);
        channel("base", x, k, 0, 0x48, 1, 0);
        check.due("vector", x.device(k, 2), 2 * k);
        Program.steps(x, 2);
        channel("base", x, k, 0, 0x48, 1, 0);
        check.due("vector", x.device(k, 2), 0x50 + 2 * k);
        Program.steps(x, 2);
        channel("goes on while due", x, k, 0, 0x48, 1, 0);
        Program.steps(x, 2);
        channel("control as constant", x, k, 0, 3, 1, 0);
        // One channel's constant is not the other's.
        x = new Program().out(k, 0x45).out(1 - k, 0x60).out(k, 9).load();
        Program.steps(x, 6);
        check.due("base by the other", x.device(k, 2), 0x60 + 2 * k);
        channel("still due", x, k, 0, 9, 1, 0);
    }

    private static void bases(int k) {
        for (int v : new int[] {0, 2, 4, 6, 8, 0x40, 0xf8, 0xfe, 0xaa}) {
            ChainBoard x = new Program().out(1 - k, 0xf8).out(k, v).load();
            Program.steps(x, 4);
            check.due("vector 0 of " + v, x.device(0, 2), v & 248);
            check.due("vector 1 of " + v, x.device(1, 2), (v & 248) + 2);
            channel("base alone", x, k, 0, 0, 0, 0);
        }
    }

    private static void clocks(int k) {
        ChainBoard x = new Program().out(k, 0x85).out(k, 2).load();
        Program.steps(x, 4);
        channel("its own OUT counts", x, k, 0, 2, 1, 11);
        x.run(1);
        channel("15", x, k, 0, 2, 1, 15);
        x.run(1);
        channel("19", x, k, 0, 1, 1, 3);
        Program.steps(x, 3);
        channel("31", x, k, 0, 1, 1, 15);
        x.run(1);
        channel("35", x, k, 1, 2, 1, 3);
        check.due("not in service", x.device(k, 1), 0);
        x.trigger(k);
        channel("counts no triggers", x, k, 1, 2, 1, 3);
        // 16 exactly: 11 + 5.
        x = new Program().out(k, 0x05).out(k, 7).code(0xc8).load();
        x.set(0, 0);
        Program.steps(x, 5);
        channel("16", x, k, 0, 6, 1, 0);
    }

    private static void slowClocks(int k) {
        ChainBoard x = new Program().out(k, 0xa5).out(k, 1).load();
        Program.steps(x, 4);
        check.due("run", x.run(244), 244);
        channel("255", x, k, 0, 1, 1, 255);
        x.run(1);
        channel("259", x, k, 1, 1, 1, 3);
        x = new Program().out(k, 0x25).out(k, 0).code(0x76).load();
        Program.steps(x, 4);
        check.due("HALT", x.run(5000), 5000);
        channel("5011", x, k, 0, 256 - 5011 / 256, 1, 5011 % 256);
    }

    private static void manyFallsAtOnce(int k) {
        // 11 + 4 = 15, then 21 clocks at once: 36, which is two falls and 4.
        ChainBoard x = new Program().out(k, 0x05).out(k, 3).code(0x00, 0xed, 0xb0).load();
        x.set(1, 0);
        x.set(2, 0x200);
        x.set(3, 0x300);
        Program.steps(x, 5);
        channel("15", x, k, 0, 3, 1, 15);
        check.due("copy", x.run(1), 21);
        channel("36", x, k, 0, 1, 1, 4);
        // With the constant 1 each fall comes to 0.
        x = new Program().out(k, 0x85).out(k, 1).code(0x00, 0xed, 0xb0).load();
        x.set(1, 0);
        x.set(2, 0x200);
        x.set(3, 0x300);
        Program.steps(x, 6);
        channel("36 by 1", x, k, 1, 1, 1, 4);
    }

    private static void triggers(int k) {
        ChainBoard x = new Program().out(k, 0xc5).out(k, 3).load();
        check.due("trigger of what does not run", x.trigger(k), true);
        channel("before", x, k, 0, 0, 0, 0);
        Program.steps(x, 4);
        x.run(1000);
        channel("clocks do nothing", x, k, 0, 3, 1, 0);
        int[] counts = {2, 1, 3, 2, 1, 3};
        for (int i = 0; i < 6; i++) {
            check.due("trigger", x.trigger(k), true);
            channel("trigger " + i, x, k, i >= 2 ? 1 : 0, counts[i], 1, 0);
        }
        x = new Program().out(k, 0xc5).out(k, 0).load();
        Program.steps(x, 4);
        for (int i = 0; i < 255; i++) {
            x.trigger(k);
        }
        channel("255 of 256", x, k, 0, 1, 1, 0);
        x.trigger(k);
        channel("256 of 256", x, k, 1, 256, 1, 0);
    }

    private static void mayRequest(int k) {
        ChainBoard x = new Program().out(k, 0x45).out(k, 1).out(k, 0xc1).out(k, 0xc1).out(k, 0x41).load();
        Program.steps(x, 4);
        x.trigger(k);
        channel("may not", x, k, 0, 1, 1, 0);
        Program.steps(x, 2);
        channel("may, but had no reason since", x, k, 0, 1, 1, 0);
        x.trigger(k);
        channel("may", x, k, 1, 1, 1, 0);
        Program.steps(x, 2);
        channel("still may: kept", x, k, 1, 1, 1, 0);
        Program.steps(x, 2);
        channel("may no more: taken back", x, k, 0, 1, 1, 0);
        x.trigger(k);
        channel("may no more", x, k, 0, 1, 1, 0);
    }

    private static void controls(int k) {
        // The prescaler becomes 0 with a control, and the count goes on from where it was.
        ChainBoard x = new Program().out(k, 0x25).out(k, 9).out(k, 0x21).out(k, 0x03).out(k, 0x01)
                .out(k, 0x04).out(k, 0x05).out(k, 4).load();
        Program.steps(x, 5);
        channel("11 + 7", x, k, 0, 9, 1, 18);
        x.run(1);
        channel("0 + 11", x, k, 0, 9, 1, 11);
        Program.steps(x, 2);
        channel("runs no more", x, k, 0, 9, 0, 0);
        Program.steps(x, 2);
        channel("a control alone starts nothing", x, k, 0, 9, 0, 0);
        Program.steps(x, 2);
        channel("nor does a base", x, k, 0, 9, 0, 0);
        Program.steps(x, 2);
        channel("nor what makes a constant due", x, k, 0, 9, 0, 0);
        Program.steps(x, 2);
        channel("the constant does", x, k, 0, 4, 1, 11);
        // A constant while it runs is taken at once, with the prescaler at 0.
        x = new Program().out(k, 0x25).out(k, 9).out(k, 0x25).out(k, 5).load();
        Program.steps(x, 7);
        channel("runs while due", x, k, 0, 9, 1, 18);
        x.run(1);
        channel("new constant", x, k, 0, 5, 1, 11);
        // A base changes no prescaler.
        x = new Program().out(k, 0x25).out(k, 9).out(k, 0x20).load();
        Program.steps(x, 6);
        channel("base", x, k, 0, 9, 1, 29);
        // Stopped, it neither counts clocks nor triggers.
        x = new Program().out(k, 0x45).out(k, 9).out(k, 0x43).load();
        Program.steps(x, 6);
        x.trigger(k);
        channel("stopped", x, k, 0, 9, 0, 0);
    }

    private static void countIsRead(int k) {
        for (int v : new int[] {0, 1, 0x80, 0xff}) {
            ChainBoard x = new Program().out(k, 0x45).out(k, v).code(0x3e, 0x33, 0xdb, k).load();
            Program.steps(x, 6);
            check.due("IN of " + v, x.register(0) >> 8, v);
        }
        // IN sees the count as it is before its own clocks.
        ChainBoard x = new Program().out(k, 0x05).out(k, 5).code(0xdb, k, 0xdb, k).load();
        Program.steps(x, 5);
        check.due("IN at 11", x.register(0) >> 8, 5);
        x.run(1);
        check.due("IN at 22", x.register(0) >> 8, 4);
    }

    private static void everyControl(int k) {
        for (int v = 1; v < 256; v += 2) {
            ChainBoard x = new Program().out(k, 0xc5).out(k, 1).out(k, v).out(k, 0x78).load();
            Program.steps(x, 4);
            x.trigger(k);
            Program.steps(x, 2);
            boolean byTriggers = (v & 64) != 0;
            boolean runs = (v & 2) == 0;
            check.due("runs " + v, x.device(k, 4), runs ? 1 : 0);
            check.due("requests " + v, x.device(k, 0), v >> 7);
            check.due("prescaler " + v, x.device(k, 5), runs && !byTriggers ? 11 : 0);
            Program.steps(x, 2);
            boolean due = (v & 4) != 0;
            check.due("count " + v, x.device(k, 3), due ? 0x78 : 1);
            check.due("vector " + v, x.device(k, 2), (due ? 0 : 0x78) + 2 * k);
            if (runs && !byTriggers && !due) {
                check.due("prescaler by " + v, x.device(k, 5), (v & 32) != 0 ? 29 : 13);
            }
        }
    }

    private static void chained() {
        // Channel 0 comes to 0 every 32 clocks; each is a trigger for channel 1.
        ChainBoard x = new Program().out(1, 0xc5).out(1, 3).out(0, 0x05).out(0, 2).load();
        Program.steps(x, 8);
        check.due("run", x.run(20), 20);
        channel("31", x, 0, 0, 1, 1, 15);
        channel("31", x, 1, 0, 3, 1, 0);
        x.run(1);
        channel("35", x, 0, 0, 2, 1, 3);
        channel("35", x, 1, 0, 2, 1, 0);
        x.run(64);
        channel("99", x, 1, 1, 3, 1, 0);
        // Two at once: 15 + 21 clocks by the constant 1.
        x = new Program().out(1, 0xc5).out(1, 9).out(0, 0x05).out(0, 1).code(0x00, 0xed, 0xb0).load();
        x.set(1, 0);
        x.set(2, 0x200);
        x.set(3, 0x300);
        Program.steps(x, 9);
        channel("15", x, 1, 0, 9, 1, 0);
        x.run(1);
        channel("two triggers", x, 1, 0, 7, 1, 0);
        // A channel 1 that counts clocks minds no triggers.
        x = new Program().out(1, 0x25).out(1, 9).out(0, 0x05).out(0, 1).load();
        Program.steps(x, 8);
        x.run(100);
        channel("clocks alone", x, 1, 0, 9, 1, 11 + 36 + 100);
    }

    private static void chainedByTriggers() {
        ChainBoard x = new Program().out(0, 0x45).out(0, 2).out(1, 0xc5).out(1, 2).load();
        Program.steps(x, 8);
        x.trigger(0);
        channel("1", x, 1, 0, 2, 1, 0);
        x.trigger(0);
        channel("2", x, 0, 0, 2, 1, 0);
        channel("2", x, 1, 0, 1, 1, 0);
        x.trigger(0);
        x.trigger(0);
        channel("4", x, 1, 1, 2, 1, 0);
        channel("4", x, 0, 0, 2, 1, 0);
    }

    private static void channelOneGivesNone() {
        ChainBoard x = new Program().out(0, 0xc5).out(0, 5).out(1, 0xc5).out(1, 1).load();
        Program.steps(x, 8);
        x.trigger(1);
        channel("channel 1 at 0", x, 1, 1, 1, 1, 0);
        channel("channel 0 minds not", x, 0, 0, 5, 1, 0);
    }

    private static void wrongNumbers() {
        ChainBoard x = new Program().out(0, 0xc5).out(0, 5).out(1, 0xc5).out(1, 5).load();
        Program.steps(x, 8);
        for (int k : new int[] {-1, 2, 3, Integer.MIN_VALUE, Integer.MAX_VALUE}) {
            check.due("trigger(" + k + ")", x.trigger(k), false);
        }
        channel("untouched", x, 0, 0, 5, 1, 0);
        channel("untouched", x, 1, 0, 5, 1, 0);
    }
}
