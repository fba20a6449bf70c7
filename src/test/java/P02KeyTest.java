/** Promise 2: keys come behind those that wait, up to 40. */
public final class P02KeyTest {
    public static void main(String[] args) {
        wrongKeys();
        room();
        order();
        ring();
        Trial.end();
    }

    private static void wrongKeys() {
        DeskMachine x = new DeskMachine();
        for (int k : new int[] {-1, 256, Integer.MIN_VALUE, Integer.MAX_VALUE}) {
            Trial.refused("key(" + k + ")", () -> x.key(k));
        }
        Trial.due("keys behind wrong ones", x.about(1), 0);
        Trial.due("key(0)", x.key(0), 1);
        Trial.due("key(255)", x.key(255), 2);
    }

    private static void room() {
        DeskMachine x = new DeskMachine();
        for (int i = 1; i <= 40; i++) {
            Trial.due("key " + i, x.key(65), i);
        }
        Trial.throwsDue("the 41st key", () -> x.key(65), IllegalStateException.class);
        Trial.refused("a wrong key when there are 40", () -> x.key(256));
        Trial.due("keys", x.about(1), 40);
        x.run(1);
        Trial.due("key when there is room again", x.key(65), 40);
        Trial.throwsDue("and full again", () -> x.key(65), IllegalStateException.class);
    }

    private static void order() {
        DeskMachine x = new DeskMachine();
        Trial.keys(x, "ABC\r");
        x.run(4);
        Trial.due("not a file", x.shown(2), 63);
        Trial.entry(x, 0, "ABC ");
        Trial.keys(x, "ABC\r");
        x.run(4);
        Trial.due("keys are taken in their order", x.about(0), 1);
    }

    private static void ring() {
        DeskMachine x = Trial.begun(14, 1, 205, 5, 0, 195, 0, 1);
        int taken = 0;
        for (int k = 0; k < 110; k++) {
            x.key(k);
            if (k % 3 == 2) {
                for (int i = 0; i < 3; i++) {
                    x.run(3);
                    Trial.due("key " + taken, x.register(7), taken);
                    taken++;
                    x.run(1);
                }
            }
        }
    }
}
