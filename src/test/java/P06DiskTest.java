/** Promise 6: disk. */
public final class P06DiskTest {
    public static void main(String[] args) {
        DeskMachine x = new DeskMachine();
        x.burn(0, 0, 7);
        x.burn(31, 15, 8);
        x.burn(8, 0, 9);
        Trial.due("disk(0, 0)", x.disk(0, 0), 7);
        Trial.due("disk(31, 15)", x.disk(31, 15), 8);
        Trial.due("disk(8, 0)", x.disk(8, 0), 9);
        Trial.due("disk(7, 15)", x.disk(7, 15), 0);
        Trial.due("disk(7, 0)", x.disk(7, 0), 229);
        int[][] wrong = {{-1, 0}, {32, 0}, {0, -1}, {0, 16}, {32, 16}, {Integer.MIN_VALUE, 0},
            {Integer.MAX_VALUE, 0}, {0, Integer.MIN_VALUE}, {0, Integer.MAX_VALUE}};
        for (int[] w : wrong) {
            Trial.refused("disk(" + w[0] + ", " + w[1] + ")", () -> x.disk(w[0], w[1]));
        }
        Trial.end();
    }
}
