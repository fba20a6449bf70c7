import java.lang.management.ManagementFactory;

/** All calls of a run live in one room: calls make nothing anew, whatever the machine does in them. */
public final class RoomTest {
    /** Beside what makes the machine busy, these stay under the 512 calls that an object is good for. */
    private static final int RUNS = 300;
    private static final int OBJECTS = 10;
    private static final int LINES = 10;

    public static void main(String[] args) {
        com.sun.management.ThreadMXBean bean = (com.sun.management.ThreadMXBean) ManagementFactory.getThreadMXBean();
        // Twice: classes are loaded in the first round.
        long made = 0;
        for (int round = 0; round < 2; round++) {
            DeskMachine x = busy();
            long before = bean.getCurrentThreadAllocatedBytes();
            for (int i = 0; i < RUNS; i++) {
                x.run(1000);
            }
            made = bean.getCurrentThreadAllocatedBytes() - before;
        }
        Trial.due(RUNS + " runs make next to nothing, bytes " + made, made < 10000, true);

        DeskMachine[] objects = new DeskMachine[OBJECTS];
        for (int i = 0; i < OBJECTS; i++) {
            objects[i] = new DeskMachine();
        }
        long before = bean.getCurrentThreadAllocatedBytes();
        for (int i = 0; i < OBJECTS * LINES; i++) {
            lines(objects[i / LINES]);
        }
        made = bean.getCurrentThreadAllocatedBytes() - before;
        Trial.due("commands make next to nothing, bytes " + made, made < 10000, true);
        Trial.end();
    }

    /** It makes, writes, searches, shows and erases without an end. */
    private static DeskMachine busy() {
        DeskMachine x = Trial.begun(0);
        Trial.fileBlock(x, 96, "A???");
        int at = 256;
        for (int c : new int[] {22, 21, 21, 16, 15, 17, 18, 20, 9, 2, 19}) {
            Trial.pokes(x, at, 14, c, 17, 96, 0, 205, 5, 0);
            at += 8;
        }
        Trial.pokes(x, at, 195, 0, 1);
        return x;
    }

    private static void lines(DeskMachine x) {
        line(x, SAVE);
        line(x, SHOW);
        line(x, RENAME);
        line(x, DROP);
    }

    private static final int[] SAVE = {'S', 'A', 'V', 'E', ' ', '9', ' ', 'P', 13};
    private static final int[] SHOW = {'S', 'H', 'O', 'W', ' ', 'P', 13};
    private static final int[] RENAME = {'C', 'A', 'L', 'L', ' ', 'P', ' ', 'Q', 13};
    private static final int[] DROP = {'D', 'R', 'O', 'P', ' ', '?', 13};

    private static void line(DeskMachine x, int[] keys) {
        for (int k : keys) {
            x.key(k);
        }
        x.run(keys.length);
    }
}
