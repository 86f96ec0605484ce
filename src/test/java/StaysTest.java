import java.util.LinkedHashMap;
import java.util.Map;

/** What an action does not name stays as it is: of the devices' answers, and of what shows only later. */
public final class StaysTest {
    private static final Check check = new Check();

    private interface Action {
        void on(ChainBoard x);
    }

    public static void main(String[] args) {
        channelBytes();
        portBytes();
        readyStays();
        outsideAndOtherPorts();
        onlyReturnEndsService();
        stopLeavesAll();
        for (int p = 0; p < 2; p++) {
            for (Map.Entry<String, Action> between : between(p).entrySet()) {
                hidden(p, between.getKey(), between.getValue());
            }
            conditionGoesOn(p);
            for (int mode : new int[] {0x0f, 0x4f}) {
                strobeLeavesDirectionsAndLines(p, mode);
                strobeLeavesWatching(p, mode);
                strobeLeavesWhatIsDue(p, mode);
                strobeLeavesRequest(p, mode);
                strobeLeavesCondition(p, mode);
            }
            outputStrobeLeavesReceived(p);
        }
        for (int k = 0; k < 2; k++) {
            constantStaysDue(k);
            constantAndWaysStay(k);
        }
        check.end();
    }

    private static void out(ChainBoard x, int port, int v) {
        x.poke4(0x300, 0x3e00d300 | v << 16 | port);
        carryOut(x, 2);
    }

    private static int in(ChainBoard x, int port) {
        x.poke4(0x300, 0x3e77db00 | port);
        carryOut(x, 2);
        return x.register(0) >> 8;
    }

    private static void carryOut(ChainBoard x, int instructions) {
        x.set(9, 0x300);
        Program.steps(x, instructions);
    }

    /**
     * All four devices are in service and requesting once more; both ports are in mode 3. Of the 512
     * calls of an object some 150 are used, and a look at what an action changes takes some 50.
     */
    private static ChainBoard busy() {
        ChainBoard x = Devices.prepared();
        for (int d = 3; d >= 0; d--) {
            Devices.serve(x, d);
        }
        for (int d = 3; d >= 0; d--) {
            Devices.ask(x, d);
        }
        for (int p = 0; p < 2; p++) {
            out(x, 2 + 2 * p, 0x3c);
        }
        for (int d = 0; d < 4; d++) {
            check.due("requesting " + d, x.device(d, 0), 1);
            check.due("in service " + d, x.device(d, 1), 1);
        }
        return x;
    }

    private static int[] answers(ChainBoard x) {
        int[] all = new int[24];
        for (int i = 0; i < 24; i++) {
            all[i] = x.device(i / 6, i % 6);
        }
        return all;
    }

    /** The changes are threes: device, what, its answer behind the action. */
    private static void changes(String name, ChainBoard x, Action action, int... changes) {
        check.by("nothing but what the document names is changed by");
        int[] want = answers(x);
        for (int i = 0; i < changes.length; i += 3) {
            want[6 * changes[i] + changes[i + 1]] = changes[i + 2];
        }
        action.on(x);
        int[] got = answers(x);
        for (int i = 0; i < 24; i++) {
            check.due(name + ": device(" + i / 6 + ", " + i % 6 + ")", got[i], want[i]);
        }
    }

    private static void outChanges(ChainBoard x, int port, int v, int... changes) {
        changes("OUT " + port + " = " + v, x, y -> out(y, port, v), changes);
    }

    private static void channelBytes() {
        for (int k = 0; k < 2; k++) {
            outChanges(busy(), k, 0xc1);
            outChanges(busy(), k, 0xe1);
            outChanges(busy(), k, 0xc3, k, 4, 0);
            outChanges(busy(), k, 0x41, k, 0, 0);
            // It counts the 11 clocks of OUT itself.
            outChanges(busy(), k, 0x81, k, 5, 11);
            outChanges(busy(), k, 0x36, 0, 2, 0x30, 1, 2, 0x32);
            ChainBoard x = busy();
            outChanges(x, k, 0xc5);
            outChanges(x, k, 0x07, k, 3, 7);
            outChanges(x, k, 0xc7, k, 4, 0);
            outChanges(x, k, 0x00, k, 3, 256, k, 4, 1);
            outChanges(x, k, 0xc1);
            int port = k;
            changes("IN " + k, x, y -> in(y, port));
        }
    }

    private static void portBytes() {
        for (int p = 0; p < 2; p++) {
            int d = 2 + p;
            int data = 2 + 2 * p;
            int control = data + 1;
            outChanges(busy(), data, 0x5a, d, 5, 0x5a);
            outChanges(busy(), control, 0x24, d, 2, 0x24);
            outChanges(busy(), control, 0x0f, d, 3, 0);
            outChanges(busy(), control, 0x4f, d, 3, 1);
            for (int v : new int[] {0x83, 0x03, 0x87, 0x07, 0xa7, 0xc7, 0x01, 0x05, 0x09, 0x0b, 0x0d, 0xfd}) {
                outChanges(busy(), control, v);
            }
            ChainBoard x = busy();
            outChanges(x, control, 0xcf);
            outChanges(x, control, 0x0f);
            outChanges(x, control, 0xb7, d, 0, 0);
            outChanges(x, control, 0x0f);
            changes("IN " + data, busy(), y -> in(y, data));
            changes("IN " + control, busy(), y -> in(y, control));
        }
    }

    private static void readyStays() {
        for (int p = 0; p < 2; p++) {
            int d = 2 + p;
            int data = 2 + 2 * p;
            for (int mode : new int[] {0x0f, 0x4f}) {
                for (int v : new int[] {0x83, 0x03, 0x87, 0x07, 0xe7, 0x01, 0x0d}) {
                    outChanges(ready(p, mode), data + 1, v);
                }
                outChanges(ready(p, mode), data + 1, 0x24, d, 2, 0x24);
                outChanges(ready(p, mode), data, 0x77, d, 5, 0x77);
                ChainBoard x = ready(p, mode);
                outChanges(x, data + 1, 0x97, d, 0, 0);
                outChanges(x, data + 1, 0xff);
                changes("IN " + data, x, y -> in(y, data));
                int port = p;
                changes("lines", x, y -> y.lines(port, 0x99));
                changes("strobe", x, y -> y.strobe(port, 0x99), d, 0, 1, d, 4, 0);
                changes("strobe again", x, y -> y.strobe(port, 0x98));
            }
        }
    }

    private static ChainBoard ready(int p, int mode) {
        ChainBoard x = busy();
        int data = 2 + 2 * p;
        out(x, data + 1, mode);
        if (mode == 0x0f) {
            out(x, data, 0x3c);
        } else {
            in(x, data);
        }
        check.due("ready", x.device(2 + p, 4), 1);
        return x;
    }

    private static void outsideAndOtherPorts() {
        ChainBoard x = busy();
        int count = x.device(1, 3);
        changes("trigger(1)", x, y -> y.trigger(1), 1, 3, count - 1);
        changes("trigger(0)", x, y -> y.trigger(0), 1, 3, count - 2);
        for (int p = 0; p < 2; p++) {
            int port = p;
            changes("lines", x, y -> y.lines(port, 0x80));
            changes("strobe in mode 3", x, y -> y.strobe(port, 0x80));
        }
        for (int wrong : new int[] {-1, 2, Integer.MIN_VALUE, Integer.MAX_VALUE}) {
            x = busy();
            changes("trigger(" + wrong + ")", x, y -> y.trigger(wrong));
            changes("strobe(" + wrong + ")", x, y -> y.strobe(wrong, 1));
            changes("lines(" + wrong + ")", x, y -> y.lines(wrong, 1));
        }
        for (int port : new int[] {6, 7, 128, 255}) {
            x = busy();
            outChanges(x, port, 0xff);
            changes("IN " + port, x, y -> in(y, port));
        }
    }

    private static void onlyReturnEndsService() {
        ChainBoard x = busy();
        x.poke4(0x300, 0xfb00f300);
        changes("EI, nothing, DI", x, y -> carryOut(y, 3));
        x.poke4(0x300, 0xc9000000);
        changes("RET", x, y -> carryOut(y, 1));
        x = busy();
        x.poke4(0x300, 0xed4d0000);
        for (int d = 0; d < 4; d++) {
            changes("RETI", x, y -> carryOut(y, 1), d, 1, 0);
        }
        changes("RETI with none in service", x, y -> carryOut(y, 1));
    }

    private static void stopLeavesAll() {
        for (int second = 0; second < 256; second++) {
            if (second >= 0x30 && second < 0x38) {
                stopLeavesAll(0xcb, second);
            }
            boolean there = second % 16 == 2 || second % 16 == 10 || second == 0x44 || second == 0x47
                    || second == 0x4d || second == 0x56 || second == 0x5e || second == 0xa0 || second == 0xb0;
            if (!there || second < 0x40 || second > 0xb0) {
                stopLeavesAll(0xed, second);
            }
        }
        stopLeavesAll(0x27, 0);
        stopLeavesAll(0xdd, 0);
        stopLeavesAll(0xfd, 0);
    }

    private static void stopLeavesAll(int first, int second) {
        ChainBoard x = busy();
        x.poke4(0x300, 0xed5efb00);
        carryOut(x, 2);
        x.poke4(0x300, first << 24 | second << 16);
        for (int which = 0; which < 11; which++) {
            x.set(which, 0xf5c3);
        }
        x.set(9, 0x300);
        int[] registers = registers(x);
        changes("a stop", x, y -> y.run(100));
        int[] behind = registers(x);
        for (int i = 0; i < registers.length; i++) {
            check.due("a stop by " + first + " " + second + ": " + i, behind[i], registers[i]);
        }
        check.due("stopped by " + first + " " + second, x.state(), 2);
    }

    /** The registers, and behind them what has passed. */
    private static int[] registers(ChainBoard x) {
        int[] all = new int[16];
        for (int i = 0; i < 16; i++) {
            all[i] = i < 13 ? x.register(i) : x.passed(i - 13);
        }
        return all;
    }

    /** What may come between two looks at a port and must not touch what it keeps. */
    private static Map<String, Action> between(int p) {
        int data = 2 + 2 * p;
        Map<String, Action> all = new LinkedHashMap<>();
        all.put("nothing", x -> { });
        all.put("OUT to data", x -> out(x, data, 0x00));
        all.put("IN from data", x -> in(x, data));
        all.put("IN from control", x -> in(x, data + 1));
        all.put("a strobe that fails", x -> x.strobe(p, 0x66));
        all.put("bytes to the other port", x -> otherPort(x, p));
        all.put("lines of the other port", x -> x.lines(1 - p, 0xff));
        all.put("triggers", x -> x.trigger(p));
        all.put("bytes to a channel", x -> {
            out(x, p, 0x40);
            out(x, p, 0x41);
        });
        return all;
    }

    private static void otherPort(ChainBoard x, int p) {
        int control = 3 + 2 * (1 - p);
        for (int v : new int[] {0xcf, 0x33, 0xd7, 0x55, 0x40, 0x0f, 0x83}) {
            out(x, control, v);
        }
    }

    private static void hidden(int p, String name, Action between) {
        check.by("it stays, behind " + name + ",");
        received(p, between);
        directions(p, between);
        watching(p, between);
        dueStaysDue(p, between);
    }

    private static void received(int p, Action between) {
        int data = 2 + 2 * p;
        for (int[] modes : new int[][] {{}, {0x0f}, {0xcf, 0xff}, {0xcf, 0x00}, {0x20}, {0x83},
            {0x97, 0x0f}, {0x01}, {0x0d}, {0x87, 0xcf, 0xff, 0x97, 0x00}, {0x97, 0xff, 0xcf, 0xff, 0x97, 0x00}}) {
            ChainBoard x = new ChainBoard();
            out(x, data + 1, 0x4f);
            in(x, data);
            check.due("strobe", x.strobe(p, 0xe7), true);
            for (int v : modes) {
                out(x, data + 1, v);
            }
            between.on(x);
            out(x, data + 1, 0x4f);
            check.due("the received byte", in(x, data), 0xe7);
        }
    }

    private static void directions(int p, Action between) {
        int data = 2 + 2 * p;
        for (int[] bytes : new int[][] {{}, {0x0f}, {0x4f}, {0x20}, {0x83}, {0x97, 0xc3}}) {
            ChainBoard x = new ChainBoard();
            out(x, data + 1, 0xcf);
            out(x, data + 1, 0x0f);
            x.lines(p, 0xaa);
            for (int v : bytes) {
                out(x, data + 1, v);
            }
            between.on(x);
            // Mode 3 again; its new directions are due, but have not come.
            out(x, data + 1, 0xcf);
            out(x, data, 0x55);
            check.due("the directions and the lines", in(x, data), 0x5a);
        }
    }

    private static void watching(int p, Action between) {
        int control = 3 + 2 * p;
        for (int[] bytes : new int[][] {{}, {0x0f}, {0x4f}, {0x20}, {0x83}}) {
            ChainBoard x = new ChainBoard();
            // All of the lines 0 and 1 high.
            for (int v : new int[] {0xcf, 0xff, 0xf7, 0xfc}) {
                out(x, control, v);
            }
            for (int v : bytes) {
                out(x, control, v);
            }
            between.on(x);
            out(x, control, 0xcf);
            out(x, control, 0xff);
            for (int lines : new int[] {0x00, 0x01, 0xfe, 0xfd}) {
                x.lines(p, lines);
                check.due("the mask, ALL and HIGH, lines " + lines, x.device(2 + p, 0), 0);
            }
            x.lines(p, 0x03);
            check.due("that it may request", x.device(2 + p, 0), 1);
        }
    }

    private static void dueStaysDue(int p, Action between) {
        int data = 2 + 2 * p;
        for (int mode : new int[] {0x0f, 0x4f, 0xcf}) {
            ChainBoard x = new ChainBoard();
            out(x, data + 1, mode);
            if (mode == 0xcf) {
                between.on(x);
                out(x, data + 1, 0x0e);
                check.due("that directions are due", x.device(2 + p, 2), 0);
            }
            out(x, data + 1, 0xb7);
            between.on(x);
            out(x, data + 1, 0xf0);
            check.due("that a mask is due", x.device(2 + p, 2), 0);
            out(x, data + 1, 0x0e);
            check.due("that no more is due", x.device(2 + p, 2), 0x0e);
        }
    }

    private static void conditionGoesOn(int p) {
        check.by("when it holds, and did not when it was looked at before");
        ChainBoard x = Devices.prepared();
        Devices.serve(x, 2 + p);
        check.due("acknowledged", x.device(2 + p, 1), 1);
        for (Map.Entry<String, Action> entry : between(p).entrySet()) {
            entry.getValue().on(x);
            x.lines(p, 1);
            check.due("goes on behind " + entry.getKey(), x.device(2 + p, 0), 0);
        }
        x.poke4(0x300, 0xed4d0000);
        carryOut(x, 1);
        x.lines(p, 3);
        check.due("goes on behind RETI", x.device(2 + p, 0), 0);
    }

    private static ChainBoard withControls(int p, int... bytes) {
        ChainBoard x = new ChainBoard();
        controls(x, p, bytes);
        return x;
    }

    private static void controls(ChainBoard x, int p, int... bytes) {
        for (int v : bytes) {
            out(x, 3 + 2 * p, v);
        }
    }

    /** A strobe that is taken, in mode 0 (0f) or 1 (4f). */
    private static void takenStrobe(ChainBoard x, int p, int mode) {
        check.by("a strobe that is taken, mode " + mode + ", leaves");
        int data = 2 + 2 * p;
        if (mode == 0x0f) {
            out(x, data, 0x00);
        } else {
            in(x, data);
        }
        check.due("strobe", x.strobe(p, 0x66), true);
    }

    private static void strobeLeavesDirectionsAndLines(int p, int mode) {
        ChainBoard x = withControls(p, 0xcf, 0x0f, mode);
        x.lines(p, 0xaa);
        takenStrobe(x, p, mode);
        controls(x, p, 0xcf);
        out(x, 2 + 2 * p, 0x55);
        check.due("directions and lines", in(x, 2 + 2 * p), 0x5a);
    }

    private static void strobeLeavesWatching(int p, int mode) {
        // All of the lines 0 and 1 high, or any of them low; it may request only behind the strobe.
        for (int control : new int[] {0x77, 0x17}) {
            boolean allHigh = control == 0x77;
            ChainBoard x = withControls(p, 0xcf, 0xff, control, 0xfc, mode);
            takenStrobe(x, p, mode);
            x.lines(p, allHigh ? 0x00 : 0xff);
            controls(x, p, 0x83, 0xcf, 0xff);
            for (int lines : allHigh ? new int[] {0x01, 0xfe} : new int[] {0x03, 0x0f}) {
                x.lines(p, lines);
                check.due("the mask, ALL and HIGH, by " + control, x.device(2 + p, 0), 0);
            }
            x.lines(p, allHigh ? 0x03 : 0xfe);
            check.due("the condition, by " + control, x.device(2 + p, 0), 1);
        }
    }

    private static void strobeLeavesWhatIsDue(int p, int mode) {
        ChainBoard x = withControls(p, mode, 0x97);
        takenStrobe(x, p, mode);
        controls(x, p, 0xf0);
        check.due("that a mask is due", x.device(2 + p, 2), 0);
        controls(x, p, 0x0e);
        check.due("that no more is due", x.device(2 + p, 2), 0x0e);
    }

    private static void strobeLeavesRequest(int p, int mode) {
        ChainBoard x = withControls(p, mode, 0x83);
        takenStrobe(x, p, mode);
        check.due("a request of its own", x.device(2 + p, 0), 1);
        controls(x, p, 0x03);
        takenStrobe(x, p, mode);
        check.due("the request, though it may not request", x.device(2 + p, 0), 1);
    }

    /** The strobe's own request is acknowledged, so that the condition's shows. */
    private static void strobeLeavesCondition(int p, int mode) {
        ChainBoard x = withControls(p, 0xcf, 0xff, 0xb7, 0x00, mode);
        x.lines(p, 0x01);
        takenStrobe(x, p, mode);
        x.poke4(0x300, 0xfb000000);
        carryOut(x, 2);
        check.due("acknowledged", x.device(2 + p, 0), 0);
        controls(x, p, 0xcf);
        check.due("a condition that did not hold before", x.device(2 + p, 0), 1);
    }

    private static void outputStrobeLeavesReceived(int p) {
        ChainBoard x = withControls(p, 0x4f);
        in(x, 2 + 2 * p);
        x.strobe(p, 0xe7);
        controls(x, p, 0x0f);
        takenStrobe(x, p, 0x0f);
        controls(x, p, 0x4f);
        check.due("the received byte", in(x, 2 + 2 * p), 0xe7);
    }

    private static void constantStaysDue(int k) {
        check.by("A byte OUT to it, when a CONSTANT is due, is that");
        ChainBoard x = new ChainBoard();
        out(x, k, 0xc5);
        x.trigger(k);
        in(x, k);
        out(x, 1 - k, 0x41);
        out(x, 1 - k, 0x18);
        otherPort(x, 0);
        out(x, k, 0x20);
        check.due("the count", x.device(k, 3), 0x20);
        check.due("the vector", x.device(k, 2), 0x18 + 2 * k);
    }

    private static void constantAndWaysStay(int k) {
        check.by("When it comes to 0, it is the constant again");
        ChainBoard x = new ChainBoard();
        out(x, k, 0xe5);
        out(x, k, 0x03);
        out(x, k, 0x48);
        out(x, 1 - k, 0x03);
        x.trigger(k);
        out(x, k, 0xe1);
        check.due("behind a control", x.device(k, 3), 2);
        x.trigger(k);
        check.due("not yet", x.device(k, 0), 0);
        x.trigger(k);
        check.due("the constant", x.device(k, 3), 3);
        check.due("it may request", x.device(k, 0), 1);
        // By 256 clocks now, the 11 of OUT among them; a base changes nothing of that.
        out(x, k, 0xa1);
        out(x, k, 0x50);
        x.poke4(0x300, 0x76000000);
        x.set(9, 0x300);
        check.due("prescaler", x.device(k, 5), 11 + Program.OUT_CLOCKS);
        x.run(224);
        check.due("prescaler, before", x.device(k, 5), 253);
        check.due("count, before", x.device(k, 3), 3);
        x.run(4);
        check.due("prescaler, behind", x.device(k, 5), 1);
        check.due("count, behind", x.device(k, 3), 2);
    }
}
