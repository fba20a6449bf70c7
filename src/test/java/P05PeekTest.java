/** Promise 5: peek. */
public final class P05PeekTest {
    public static void main(String[] args) {
        DeskMachine x = new DeskMachine();
        x.poke(0, 11);
        x.poke(511, 12);
        x.poke(255, 13);
        Trial.due("peek(0)", x.peek(0), 11);
        Trial.due("peek(511)", x.peek(511), 12);
        Trial.due("peek(255)", x.peek(255), 13);
        Trial.due("peek(256)", x.peek(256), 0);
        for (int a : new int[] {-1, 512, 1024, Integer.MIN_VALUE, Integer.MAX_VALUE}) {
            Trial.refused("peek(" + a + ")", () -> x.peek(a));
        }
        Trial.end();
    }
}
