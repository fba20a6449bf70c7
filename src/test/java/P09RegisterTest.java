/** Promise 9: the registers, the flags as a byte, SP, PC and BUFFER. */
public final class P09RegisterTest {
    public static void main(String[] args) {
        DeskMachine x = new DeskMachine();
        for (int r : new int[] {-1, 11, 12, Integer.MIN_VALUE, Integer.MAX_VALUE}) {
            Trial.due("register(" + r + ")", x.register(r), DeskMachine.NONE);
        }
        Trial.due("flags at first", x.register(6), 2);
        Trial.due("BUFFER at first", x.register(10), 128);

        // LXI B 0102, LXI D 0304, LXI H 0506, MVI A 9, LXI SP 65535
        DeskMachine y = Trial.begun(1, 2, 1, 17, 4, 3, 33, 6, 5, 62, 9, 49, 255, 255);
        y.run(5);
        int[] want = {1, 2, 3, 4, 5, 6, 2, 9, 65535, 270, 128};
        for (int r = 0; r <= 10; r++) {
            Trial.due("register(" + r + ")", y.register(r), want[r]);
        }

        for (int flags = 0; flags < 256; flags++) {
            // LXI B, PUSH B, POP PSW, PUSH PSW, POP D
            DeskMachine z = Trial.begun(1, flags, 77, 197, 241, 245, 209);
            z.run(3);
            Trial.due("flags of " + flags, z.register(6), flags & 0xD5 | 2);
            Trial.due("A", z.register(7), 77);
            z.run(2);
            Trial.due("pushed A", z.register(2), 77);
            Trial.due("pushed flags", z.register(3), flags & 0xD5 | 2);
        }

        DeskMachine b = Trial.begun(14, 26, 17, 52, 18, 205, 5, 0, 118);
        b.run(9);
        Trial.due("BUFFER is a word", b.register(10), 0x1234);
        Trial.due("A behind call 26", b.register(7), 0);
        Trial.type(b, "");
        Trial.due("BUFFER stays at the desk", b.register(10), 0x1234);
        Trial.begin(b, 0);
        Trial.due("BUFFER at a start", b.register(10), 128);
        Trial.end();
    }
}
