/** Promises 5 and 6: register, set. */
public final class RegisterTest {
    private static final Check check = new Check();

    public static void main(String[] args) {
        eachIsItsOwn();
        highBitsAreCutOff();
        otherNumbers();
        enableAndMode();
        instructionsSeeThem();
        check.end();
    }

    private static int kept(int which, int v) {
        if (which == 10) {
            return v & 255;
        }
        return which == 0 || which == 4 ? v & 0xffd7 : v & 0xffff;
    }

    private static void eachIsItsOwn() {
        ChainBoard x = new ChainBoard();
        for (int i = 0; i <= 10; i++) {
            check.due("set(" + i + ")", x.set(i, 0x1234 + 0x1111 * i), true);
        }
        for (int i = 0; i <= 10; i++) {
            check.due("register(" + i + ")", x.register(i), kept(i, 0x1234 + 0x1111 * i));
        }
    }

    private static void highBitsAreCutOff() {
        int[] values = {-1, 0x12345678, Integer.MIN_VALUE, Integer.MAX_VALUE, 0x10000, 0xffff, 0x28};
        for (int v : values) {
            ChainBoard x = new ChainBoard();
            for (int i = 0; i <= 10; i++) {
                x.set(i, v);
                check.due("register(" + i + ") of " + v, x.register(i), kept(i, v));
            }
        }
    }

    private static void otherNumbers() {
        ChainBoard x = new ChainBoard();
        for (int i : new int[] {-1, 13, 14, 100, Integer.MIN_VALUE, Integer.MAX_VALUE}) {
            check.due("register(" + i + ")", x.register(i), ChainBoard.NONE);
            check.due("set(" + i + ")", x.set(i, 1), false);
        }
        check.due("set(11)", x.set(11, 1), false);
        check.due("set(12)", x.set(12, 2), false);
        check.due("register(11)", x.register(11), 0);
        check.due("register(12)", x.register(12), 1);
    }

    private static void enableAndMode() {
        ChainBoard x = Program.of(0xfb, 0xed, 0x5e, 0xf3, 0xed, 0x56);
        int[][] want = {{1, 1}, {1, 2}, {0, 2}, {0, 1}};
        for (int[] row : want) {
            x.run(1);
            check.due("register(11)", x.register(11), row[0]);
            check.due("register(12)", x.register(12), row[1]);
        }
    }

    private static void instructionsSeeThem() {
        ChainBoard x = Program.of(0xd9, 0x08, 0x78);
        x.set(5, 0x4142);
        x.set(4, 0xffff);
        Program.steps(x, 2);
        check.due("BC from the second set", x.register(1), 0x4142);
        check.due("AF from the second set", x.register(0), 0xffd7);
        x.run(1);
        check.due("A = B", x.register(0), 0x41d7);
    }
}
