/** The programs that README.md shows, and the answers that it tells. */
public final class ReadmeTest {
    private static final Check check = new Check();

    public static void main(String[] args) {
        sum();
        timer();
        check.end();
    }

    private static void sum() {
        check.by("README: a program that ends with HALT");
        ChainBoard x = new ChainBoard();
        check.due("poke4", x.poke4(0, 0x3e2ac680), true);
        check.due("poke", x.poke(4, 0x76), true);
        check.due("run(18)", x.run(18), 18);
        check.due("register(0)", x.register(0), 0xaa80);
        check.due("state()", x.state(), 1);
        check.due("passed(1)", x.passed(1), 3);
    }

    private static void timer() {
        check.by("README: a timer channel that asks for attention every 256 clocks");
        ChainBoard x = new ChainBoard();
        int[] program = {0x3e01ed47, 0xed5e3e08, 0xd3003e85, 0xd3003e10, 0xd300fb76, 0x18fd0000};
        for (int i = 0; i < program.length; i++) {
            check.due("poke4", x.poke4(4 * i, program[i]), true);
        }
        check.due("poke4", x.poke4(0x40, 0x04fbed4d), true);
        check.due("poke4", x.poke4(0x108, 0x40000000), true);
        // The constant comes at clock 67, before the 11 clocks of its OUT; HALT ends at 86 and waits by 4.
        check.due("run(326)", x.run(326), 345);
        check.due("device(0, 1)", x.device(0, 1), 1);
        check.due("register(9)", x.register(9), 0x40);
        check.due("run(1000)", x.run(1000), 1001);
        check.due("register(1)", x.register(1), 0x400);
        check.due("passed(2)", x.passed(2), 4);
    }
}
