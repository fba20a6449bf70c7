/** Promise 3: steps at the desk and of a program, and when a run ends sooner. */
public final class P03RunTest {
    public static void main(String[] args) {
        wrongCounts();
        atTheDesk();
        waiting();
        endings();
        Trial.end();
    }

    private static void wrongCounts() {
        DeskMachine x = new DeskMachine();
        for (int n : new int[] {0, -1, 1001, Integer.MIN_VALUE, Integer.MAX_VALUE}) {
            Trial.refused("run(" + n + ")", () -> x.run(n));
        }
        Trial.due("run(1)", x.run(1), 0);
        Trial.due("run(1000)", x.run(1000), 0);
        DeskMachine y = Trial.begun(195, 0, 1);
        Trial.due("run(1000) of an endless program", y.run(1000), 1000);
        Trial.due("steps in all", y.about(3), 1003);
    }

    private static void atTheDesk() {
        DeskMachine x = new DeskMachine();
        Trial.keys(x, "LIST");
        Trial.due("run(3)", x.run(3), 3);
        Trial.due("line", x.about(4), 3);
        Trial.due("keys left", x.about(1), 1);
        Trial.due("run(9) with a key", x.run(9), 1);
        Trial.due("run(9) without a key", x.run(9), 0);
        Trial.due("line", x.about(4), 4);
        Trial.due("steps", x.about(3), 4);
    }

    private static void waiting() {
        // MVI C 1, CALL 5, HALT
        DeskMachine x = Trial.begun(14, 1, 205, 5, 0, 118);
        Trial.due("just to the call", x.run(2), 2);
        Trial.due("it does not wait before it tried", x.about(0), 1);
        Trial.due("run of the call", x.run(7), 0);
        Trial.due("it waits", x.about(0), 2);
        Trial.due("PC", x.register(9), 5);
        Trial.due("SP", x.register(8), 492);
        Trial.due("steps", x.about(3), 5);
        Trial.due("it waits again", x.run(7), 0);
        Trial.due("it waits", x.about(0), 2);
        x.key(200);
        Trial.due("it waits till run()", x.about(0), 2);
        Trial.refused("run(0)", () -> x.run(0));
        Trial.due("a wrong run is none", x.about(0), 2);
        Trial.due("the call is the first step", x.run(1), 1);
        Trial.due("it runs", x.about(0), 1);
        Trial.due("A", x.register(7), 200);
        Trial.due("PC", x.register(9), 261);
        Trial.due("SP", x.register(8), 494);
        Trial.due("no key waits", x.about(1), 0);
        Trial.due("to the halt", x.run(9), 1);
        Trial.due("at the desk", x.about(0), 0);
    }

    private static void endings() {
        DeskMachine x = Trial.begun(201);
        Trial.keys(x, "AB");
        Trial.due("the return, then two keys", x.run(100), 3);
        Trial.due("PC", x.register(9), 0);
        Trial.due("line", x.about(4), 2);

        DeskMachine y = Trial.begun(118);
        y.run(1);
        Trial.due("halt", y.about(0), 0);
        Trial.due("PC behind the halt", y.register(9), 257);
        Trial.due("nothing but 13 is shown", y.about(2), 1);

        DeskMachine z = Trial.begun(195, 0, 2);
        Trial.due("512 is not 0", z.run(2), 2);
        Trial.due("it runs", z.about(0), 1);

        DeskMachine w = Trial.begun(195, 255, 255);
        w.poke(511, 0);
        Trial.due("from 65535 to 0", w.run(9), 2);
        Trial.due("at the desk", w.about(0), 0);
        Trial.due("PC", w.register(9), 0);

        DeskMachine v = Trial.begun(199);
        Trial.due("call 0 * 8", v.run(9), 1);
        Trial.due("at the desk", v.about(0), 0);
        Trial.due("pushed", v.peek(492) + 256 * v.peek(493), 257);

        DeskMachine u = Trial.begun(14, 3, 195, 5, 0);
        Trial.due("a call that returns to 0", u.run(9), 3);
        Trial.due("at the desk", u.about(0), 0);

        // A program and the desk share the keys.
        DeskMachine t = Trial.begun(14, 1, 205, 5, 0, 118);
        Trial.keys(t, "XLIST\r");
        Trial.due("4 of the program, 5 at the desk", t.run(1000), 9);
        Trial.due("A", t.register(7), 'X');
        Trial.due("listed", Trial.shownSince(t, 1), "GO   \r>");
    }
}
