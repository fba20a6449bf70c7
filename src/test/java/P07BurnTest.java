/** Promise 7: burn. */
public final class P07BurnTest {
    public static void main(String[] args) {
        DeskMachine x = new DeskMachine();
        for (int b = 0; b < 32; b++) {
            for (int i = 0; i < 16; i++) {
                Trial.due("burn(" + b + ", " + i + ")", x.burn(b, i, (b * 16 + i * 5) & 255), true);
            }
        }
        int[][] wrong = {{-1, 0, 1}, {32, 0, 1}, {0, -1, 1}, {0, 16, 1}, {0, 0, -1}, {0, 0, 256},
            {Integer.MIN_VALUE, 0, 1}, {0, Integer.MAX_VALUE, 1}, {1, 1, Integer.MAX_VALUE}};
        for (int[] w : wrong) {
            Trial.refused("burn(" + w[0] + ", " + w[1] + ", " + w[2] + ")", () -> x.burn(w[0], w[1], w[2]));
        }
        for (int b = 0; b < 32; b++) {
            for (int i = 0; i < 16; i++) {
                Trial.due("disk(" + b + ", " + i + ")", x.disk(b, i), (b * 16 + i * 5) & 255);
            }
        }
        x.burn(31, 15, 255);
        Trial.due("disk(31, 15)", x.disk(31, 15), 255);
        Trial.end();
    }
}
