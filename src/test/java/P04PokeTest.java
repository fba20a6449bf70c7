/** Promise 4: poke. */
public final class P04PokeTest {
    public static void main(String[] args) {
        DeskMachine x = new DeskMachine();
        for (int a = 0; a < 512; a++) {
            Trial.due("poke(" + a + ")", x.poke(a, (a * 7 + 3) & 255), true);
        }
        for (int a = 0; a < 512; a++) {
            Trial.due("byte " + a, x.peek(a), (a * 7 + 3) & 255);
        }
        int[][] wrong = {{-1, 0}, {512, 0}, {0, -1}, {0, 256}, {-1, 256}, {Integer.MIN_VALUE, 1},
            {Integer.MAX_VALUE, 1}, {3, Integer.MIN_VALUE}, {3, Integer.MAX_VALUE}};
        for (int[] w : wrong) {
            Trial.refused("poke(" + w[0] + ", " + w[1] + ")", () -> x.poke(w[0], w[1]));
        }
        for (int a = 0; a < 512; a++) {
            Trial.due("byte " + a + " behind wrong pokes", x.peek(a), (a * 7 + 3) & 255);
        }
        Trial.due("poke(0, 255)", x.poke(0, 255), true);
        Trial.due("peek(0)", x.peek(0), 255);
        Trial.due("poke(511, 0)", x.poke(511, 0), true);
        Trial.due("peek(511)", x.peek(511), 0);
        Trial.end();
    }
}
