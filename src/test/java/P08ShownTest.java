/** Promise 8: the last 64 characters that were shown. */
public final class P08ShownTest {
    public static void main(String[] args) {
        DeskMachine x = new DeskMachine();
        for (int i : new int[] {0, 1, 63, 64, -1, Integer.MIN_VALUE, Integer.MAX_VALUE}) {
            Trial.due("shown(" + i + ") of a new object", x.shown(i), DeskMachine.NONE);
        }
        Trial.type(x, "");
        Trial.due("shown(0)", x.shown(0), 62);
        Trial.due("shown(1)", x.shown(1), 13);
        Trial.due("shown(2)", x.shown(2), DeskMachine.NONE);
        Trial.due("shown(-1)", x.shown(-1), DeskMachine.NONE);

        for (int n = 0; n < 300; n++) {
            after(n);
        }
        Trial.end();
    }

    /** What can be seen when 13 and then the numbers from 0 to n have been shown. */
    private static void after(int n) {
        // MVI E 0, MVI C 2, CALL 5, INC E, JMP to the call
        DeskMachine y = Trial.begun(30, 0, 14, 2, 205, 5, 0, 28, 195, 4, 1);
        y.run(2);
        for (int i = 0; i <= n; i++) {
            y.run(4);
        }
        Trial.due("shown in all", y.about(2), n + 2);
        for (int i = 0; i < 64; i++) {
            int want = i <= n ? (n - i) & 255 : i == n + 1 ? 13 : DeskMachine.NONE;
            Trial.due("shown(" + i + ") behind " + n, y.shown(i), want);
        }
        Trial.due("shown(64)", y.shown(64), DeskMachine.NONE);
        Trial.due("shown(-1)", y.shown(-1), DeskMachine.NONE);
    }
}
