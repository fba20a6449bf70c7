/** Promise 4: poke. */
public final class P04PokeTest {
    public static void main(String[] args) {
        for (int from = 0; from < 512; from += 128) {
            pokes(from, from + 128);
        }
        edges();
        Trial.end();
    }

    private static int value(int a) {
        return (a * 7 + 3) & 255;
    }

    private static void pokes(int from, int to) {
        DeskMachine x = new DeskMachine();
        for (int a = from; a < to; a++) {
            Trial.due("poke(" + a + ")", x.poke(a, value(a)), true);
        }
        for (int a = from; a < to; a++) {
            Trial.due("byte " + a, x.peek(a), value(a));
        }
        int[][] wrong = {{-1, 0}, {512, 0}, {from, -1}, {from, 256}, {-1, 256}, {Integer.MIN_VALUE, 1},
            {Integer.MAX_VALUE, 1}, {from, Integer.MIN_VALUE}, {from, Integer.MAX_VALUE}};
        for (int[] w : wrong) {
            Trial.refused("poke(" + w[0] + ", " + w[1] + ")", () -> x.poke(w[0], w[1]));
        }
        for (int a = from; a < to; a++) {
            Trial.due("byte " + a + " behind wrong pokes", x.peek(a), value(a));
        }
    }

    private static void edges() {
        DeskMachine x = new DeskMachine();
        Trial.due("poke(0, 255)", x.poke(0, 255), true);
        Trial.due("peek(0)", x.peek(0), 255);
        Trial.due("poke(511, 255)", x.poke(511, 255), true);
        Trial.due("poke(511, 0)", x.poke(511, 0), true);
        Trial.due("peek(511)", x.peek(511), 0);
        Trial.due("peek(1)", x.peek(1), 0);
    }
}
