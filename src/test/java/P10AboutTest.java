/** Promise 10: about. */
public final class P10AboutTest {
    public static void main(String[] args) {
        DeskMachine x = new DeskMachine();
        for (int what : new int[] {-1, 5, 6, Integer.MIN_VALUE, Integer.MAX_VALUE}) {
            Trial.due("about(" + what + ")", x.about(what), DeskMachine.NONE);
        }
        Trial.keys(x, "AB" + Trial.bytes(31, 127, 200, 0, 126, 32));
        Trial.due("keys", x.about(1), 8);
        Trial.due("run", x.run(8), 8);
        Trial.due("keys taken", x.about(1), 0);
        Trial.due("the line has those from 32 to 126", x.about(4), 4);
        Trial.due("steps", x.about(3), 8);
        Trial.keys(x, "0123456789012345");
        x.run(15);
        Trial.due("line", x.about(4), 19);
        x.run(1);
        Trial.due("a full line", x.about(4), 20);
        Trial.keys(x, "xyz");
        Trial.due("keys too many are steps", x.run(9), 3);
        Trial.due("a full line", x.about(4), 20);
        Trial.due("nothing was shown", x.about(2), 0);
        x.key(13);
        x.run(1);
        Trial.due("line", x.about(4), 0);
        Trial.due("shown in all", x.about(2), 3);
        Trial.due("steps", x.about(3), 28);

        DeskMachine y = Trial.begun(14, 1, 205, 5, 0, 118);
        Trial.due("it runs", y.about(0), 1);
        Trial.due("line of one that runs", y.about(4), 0);
        y.run(100);
        Trial.due("it waits", y.about(0), 2);
        y.key(1);
        Trial.due("still", y.about(0), 2);
        Trial.due("keys", y.about(1), 1);
        y.run(1);
        Trial.due("it runs", y.about(0), 1);
        y.run(1);
        Trial.due("at the desk", y.about(0), 0);
        Trial.end();
    }
}
