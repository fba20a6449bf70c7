/** Promise 1: all bytes 0, the entries free, at the desk, nothing shown. */
public final class P01NewObjectTest {
    public static void main(String[] args) {
        // An object each: one is good for 512 calls.
        DeskMachine memory = new DeskMachine();
        for (int a = 0; a < 512; a++) {
            Trial.due("peek(" + a + ")", memory.peek(a), 0);
        }
        DeskMachine disk = new DeskMachine();
        for (int b = 0; b < 32; b++) {
            for (int i = 0; i < 16; i++) {
                Trial.due("disk(" + b + ", " + i + ")", disk.disk(b, i), b < 8 && i == 0 ? 229 : 0);
            }
        }
        DeskMachine x = new DeskMachine();
        for (int r = 0; r <= 10; r++) {
            Trial.due("register(" + r + ")", x.register(r), r == 6 ? 2 : r == 10 ? 128 : 0);
        }
        for (int what = 0; what <= 4; what++) {
            Trial.due("about(" + what + ")", x.about(what), 0);
        }
        Trial.due("shown(0)", x.shown(0), DeskMachine.NONE);
        Trial.due("NONE", DeskMachine.NONE, -1);

        DeskMachine other = new DeskMachine();
        x.poke(7, 9);
        x.burn(9, 9, 9);
        Trial.due("another object's memory", other.peek(7), 0);
        Trial.due("another object's disk", other.disk(9, 9), 0);
        Trial.end();
    }
}
