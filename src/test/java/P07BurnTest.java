/** Promise 7: burn. */
public final class P07BurnTest {
    public static void main(String[] args) {
        for (int from = 0; from < 32; from += 8) {
            burns(from, from + 8);
        }
        DeskMachine x = new DeskMachine();
        x.burn(31, 15, 255);
        Trial.due("disk(31, 15)", x.disk(31, 15), 255);
        Trial.due("disk(31, 14)", x.disk(31, 14), 0);
        Trial.end();
    }

    private static int value(int b, int i) {
        return (b * 16 + i * 5) & 255;
    }

    private static void burns(int from, int to) {
        DeskMachine x = new DeskMachine();
        for (int b = from; b < to; b++) {
            for (int i = 0; i < 16; i++) {
                Trial.due("burn(" + b + ", " + i + ")", x.burn(b, i, value(b, i)), true);
            }
        }
        int[][] wrong = {{-1, 0, 1}, {32, 0, 1}, {from, -1, 1}, {from, 16, 1}, {from, 0, -1}, {from, 0, 256},
            {Integer.MIN_VALUE, 0, 1}, {from, Integer.MAX_VALUE, 1}, {from, 1, Integer.MAX_VALUE}};
        for (int[] w : wrong) {
            Trial.refused("burn(" + w[0] + ", " + w[1] + ", " + w[2] + ")", () -> x.burn(w[0], w[1], w[2]));
        }
        for (int b = from; b < to; b++) {
            for (int i = 0; i < 16; i++) {
                Trial.due("disk(" + b + ", " + i + ")", x.disk(b, i), value(b, i));
            }
        }
    }
}
