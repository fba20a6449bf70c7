import java.util.function.Supplier;

/** The boundary cases that promises 1 to 10 name, a test for each sentence. */
public final class BoundaryFaceTest {
    private static final Class<?> ARGUMENT = IllegalArgumentException.class;
    private static final Class<?> STATE = IllegalStateException.class;
    private static final int LEAST = Integer.MIN_VALUE;
    private static final int MOST = Integer.MAX_VALUE;

    /** In each state of about(0), so that a refused call has something that it could spoil. */
    private static final Supplier<DeskMachine> TYPING = BoundaryFaceTest::typing;
    private static final Supplier<DeskMachine> RUNNING = BoundaryFaceTest::running;
    private static final Supplier<DeskMachine> WAITING = BoundaryFaceTest::waiting;

    public static void main(String[] args) {
        newObject();
        keyOutside();
        keyWhenFull();
        keyRoomComesBack();
        keyBehindOthers();
        runOutside();
        runUpToN();
        runWithoutKey();
        runIntoWait();
        runOutOfWait();
        pokeOutside();
        peekOutside();
        diskOutside();
        burnOutside();
        shownKept();
        shownNone();
        registerNone();
        registerFlags();
        registerWords();
        aboutNone();
        aboutWaits();
        aboutCounts();
        aboutLine();
        Trial.end();
    }

    private static DeskMachine typing() {
        DeskMachine x = new DeskMachine();
        Trial.keys(x, "LIST\rAB");
        x.run(6);
        return x;
    }

    private static DeskMachine running() {
        // MVI A 7, INC E, CALL 5 with C 2, over and over
        DeskMachine x = Trial.begun(62, 7, 14, 2, 28, 205, 5, 0, 195, 4, 1);
        x.run(50);
        x.key(65);
        return x;
    }

    private static DeskMachine waiting() {
        DeskMachine x = Trial.begun(14, 1, 205, 5, 0, 118);
        x.run(9);
        x.key(66);
        return x;
    }

    private static void newObject() {
        Trial.sentence("All bytes 0, but the directory's entries free.");
        DeskMachine memory = new DeskMachine();
        Trial.due("memory", Trial.memory(memory, 0, 512), Trial.bytes(new int[512]));
        DeskMachine disk = new DeskMachine();
        for (int b = 0; b < 32; b++) {
            for (int i = 0; i < 16; i++) {
                Trial.due("disk(" + b + ", " + i + ")", disk.disk(b, i), b < 8 && i == 0 ? 229 : 0);
            }
        }
        Trial.sentence("At the desk; nothing is shown.");
        DeskMachine x = new DeskMachine();
        Trial.due("about(0)", x.about(0), 0);
        Trial.due("about(2)", x.about(2), 0);
        Trial.due("shown(0)", x.shown(0), DeskMachine.NONE);
    }

    private static void keyOutside() {
        Trial.sentence("IllegalArgumentException: k is not 0 .. 255.");
        for (int k : new int[] {-1, 256, LEAST, MOST}) {
            Trial.refusedWhole("key(" + k + ")", TYPING, x -> x.key(k), ARGUMENT);
        }
        Trial.refusedWhole("key(256) of one that runs", RUNNING, x -> x.key(256), ARGUMENT);
        Trial.refusedWhole("key(-1) of one that waits", WAITING, x -> x.key(-1), ARGUMENT);
        DeskMachine x = new DeskMachine();
        Trial.due("key(0)", x.key(0), 1);
        Trial.due("key(255)", x.key(255), 2);
    }

    private static DeskMachine full() {
        DeskMachine x = new DeskMachine();
        for (int i = 1; i <= 40; i++) {
            Trial.due("key " + i, x.key(64 + i), i);
        }
        return x;
    }

    private static void keyWhenFull() {
        Trial.sentence("IllegalStateException: there are 40.");
        Trial.refusedWhole("the 41st key", BoundaryFaceTest::full, x -> x.key(65), STATE);
        Trial.refusedWhole("a wrong key when there are 40", BoundaryFaceTest::full, x -> x.key(256), ARGUMENT);
        DeskMachine waits = waiting();
        for (int i = 2; i <= 40; i++) {
            Trial.due("key " + i + " of one that waits", waits.key(i), i);
        }
        Trial.throwsDue("the 41st key of one that waits", () -> waits.key(65), STATE);
        Trial.due("keys", waits.about(1), 40);
    }

    private static void keyRoomComesBack() {
        Trial.sentence("IllegalStateException: there are 40.");
        DeskMachine x = full();
        x.run(1);
        Trial.due("when the desk took one", x.key(1), 40);
        Trial.throwsDue("and full again", () -> x.key(1), STATE);
        DeskMachine y = waiting();
        for (int i = 2; i <= 40; i++) {
            y.key(i);
        }
        y.run(1);
        Trial.due("when call 1 took one", y.key(1), 40);
        Trial.throwsDue("and full again", () -> y.key(1), STATE);
    }

    private static void keyBehindOthers() {
        Trial.sentence("A key comes behind those that wait.");
        // It takes keys without an end: CALL 5 with C 1.
        DeskMachine x = Trial.begun(14, 1, 205, 5, 0, 195, 2, 1);
        x.run(1);
        int taken = 0;
        for (int round = 0; round < 3; round++) {
            for (int i = 0; i < 40; i++) {
                x.key(round * 40 + i);
            }
            for (int i = 0; i < 40; i++) {
                x.run(3);
                Trial.due("key " + taken, x.register(7), taken);
                taken++;
            }
        }
    }

    private static void runOutside() {
        Trial.sentence("IllegalArgumentException: n is not 1 .. 1000.");
        for (int n : new int[] {0, -1, 1001, LEAST, MOST}) {
            Trial.refusedWhole("run(" + n + ")", TYPING, x -> x.run(n), ARGUMENT);
            Trial.refusedWhole("run(" + n + ") of one that runs", RUNNING, x -> x.run(n), ARGUMENT);
            Trial.refusedWhole("run(" + n + ") of one that waits", WAITING, x -> x.run(n), ARGUMENT);
        }
        Trial.due("run(1)", running().run(1), 1);
        Trial.due("run(1000)", running().run(1000), 1000);
    }

    private static void runUpToN() {
        Trial.sentence("Goes on for up to n steps: at the desk a step takes a key, running an instruction or a call.");
        DeskMachine x = new DeskMachine();
        Trial.keys(x, "ABCDE");
        Trial.due("run(4) with five keys", x.run(4), 4);
        Trial.due("a key is left", x.about(1), 1);
        Trial.due("run(1) with one key", x.run(1), 1);
        // RET at once: a line, a program and a line in one run
        DeskMachine y = new DeskMachine();
        Trial.entry(y, 0, "P   ");
        y.poke(256, 201);
        Trial.keys(y, "P\rP\rLIST\r");
        Trial.due("two lines, two returns and a line", y.run(1000), 11);
        Trial.due("what they show", Trial.shownSince(y, 0), "\r\rP    \r>");
        Trial.due("steps in all", y.about(3), 11);
        DeskMachine z = new DeskMachine();
        Trial.entry(z, 0, "P   ");
        z.poke(256, 201);
        Trial.keys(z, "P\rX");
        Trial.due("just to the start", z.run(2), 2);
        Trial.due("it runs", z.about(0), 1);
        Trial.due("PC", z.register(9), 256);
        Trial.due("just the return", z.run(1), 1);
        Trial.due("at the desk", z.about(0), 0);
        Trial.due("the key waits still", z.about(1), 1);
    }

    private static void runWithoutKey() {
        Trial.sentence("It ends sooner when there is no key for a step at the desk");
        DeskMachine x = new DeskMachine();
        Trial.due("run(1) without a key", x.run(1), 0);
        Trial.due("run(1000) without a key", x.run(1000), 0);
        Trial.due("no step was done", x.about(3), 0);
        Trial.due("at the desk", x.about(0), 0);
        x.key(65);
        Trial.due("run(2) with one key", x.run(2), 1);
        DeskMachine y = Trial.begun(118);
        Trial.due("a halt and no key", y.run(1000), 1);
        Trial.due("at the desk", y.about(0), 0);
    }

    private static void runIntoWait() {
        Trial.sentence("or the machine waits");
        DeskMachine x = Trial.begun(14, 1, 205, 5, 0, 118);
        Trial.due("just to the call", x.run(2), 2);
        Trial.due("it runs till it tries", x.about(0), 1);
        Trial.due("the call", x.run(1), 0);
        Trial.due("it waits", x.about(0), 2);
        Trial.due("no step", x.about(3), 5);
        DeskMachine y = Trial.begun(14, 1, 205, 5, 0, 118);
        Trial.due("up to the call in one run", y.run(1000), 2);
        Trial.due("it waits", y.about(0), 2);
        Trial.due("PC", y.register(9), 5);
        Trial.due("SP", y.register(8), 492);
        Trial.due("A", y.register(7), 0);
    }

    private static void runOutOfWait() {
        Trial.sentence("(one that waited does its call as the first step, if there is a key by now)");
        DeskMachine x = waiting();
        Trial.due("run(1)", x.run(1), 1);
        Trial.due("A", x.register(7), 66);
        Trial.due("PC", x.register(9), 261);
        Trial.due("it runs", x.about(0), 1);
        Trial.due("the key is taken", x.about(1), 0);
        Trial.due("steps in all", x.about(3), 6);
        DeskMachine y = waiting();
        Trial.due("the call and the halt", y.run(1000), 2);
        Trial.due("at the desk", y.about(0), 0);
        DeskMachine z = Trial.begun(14, 1, 205, 5, 0, 118);
        z.run(9);
        Trial.due("run(1) without a key", z.run(1), 0);
        Trial.due("it waits still", z.about(0), 2);
        Trial.due("run(1000) without a key", z.run(1000), 0);
        Trial.due("and still", z.about(0), 2);
        Trial.due("steps in all", z.about(3), 5);
        // JMP 5 instead of a call: what is popped is the 0 of the start.
        DeskMachine w = Trial.begun(14, 1, 195, 5, 0);
        w.run(9);
        Trial.keys(w, "AB");
        Trial.due("the call, then a key at the desk", w.run(1000), 2);
        Trial.due("A", w.register(7), 65);
        Trial.due("line", w.about(4), 1);
    }

    private static void pokeOutside() {
        Trial.sentence("IllegalArgumentException: a is not 0 .. 511, or v not 0 .. 255.");
        int[][] wrong = {{-1, 1}, {512, 1}, {LEAST, 1}, {MOST, 1}, {300, -1}, {300, 256}, {300, LEAST}, {300, MOST},
            {-1, -1}, {512, 256}};
        for (int[] w : wrong) {
            Trial.refusedWhole("poke(" + w[0] + ", " + w[1] + ")", RUNNING, x -> x.poke(w[0], w[1]), ARGUMENT);
        }
        DeskMachine x = new DeskMachine();
        for (int a : new int[] {0, 511}) {
            for (int v : new int[] {255, 0}) {
                Trial.due("poke(" + a + ", " + v + ")", x.poke(a, v), true);
                Trial.due("peek(" + a + ")", x.peek(a), v);
            }
        }
    }

    private static void peekOutside() {
        Trial.sentence("IllegalArgumentException: a is not 0 .. 511.");
        for (int a : new int[] {-1, 512, LEAST, MOST}) {
            Trial.refusedWhole("peek(" + a + ")", RUNNING, x -> x.peek(a), ARGUMENT);
        }
        DeskMachine x = new DeskMachine();
        x.poke(0, 3);
        x.poke(511, 4);
        Trial.due("peek(0)", x.peek(0), 3);
        Trial.due("peek(511)", x.peek(511), 4);
    }

    private static void diskOutside() {
        Trial.sentence("IllegalArgumentException: there is no such block or byte.");
        int[][] wrong = {{-1, 0}, {32, 0}, {LEAST, 0}, {MOST, 0}, {5, -1}, {5, 16}, {5, LEAST}, {5, MOST}, {-1, 16},
            {32, -1}};
        for (int[] w : wrong) {
            Trial.refusedWhole("disk(" + w[0] + ", " + w[1] + ")", RUNNING, x -> x.disk(w[0], w[1]), ARGUMENT);
        }
        DeskMachine x = new DeskMachine();
        Trial.due("disk(0, 0)", x.disk(0, 0), 229);
        Trial.due("disk(7, 0)", x.disk(7, 0), 229);
        Trial.due("disk(8, 0)", x.disk(8, 0), 0);
        x.burn(0, 15, 3);
        x.burn(31, 0, 4);
        x.burn(31, 15, 5);
        Trial.due("disk(0, 15)", x.disk(0, 15), 3);
        Trial.due("disk(31, 0)", x.disk(31, 0), 4);
        Trial.due("disk(31, 15)", x.disk(31, 15), 5);
    }

    private static void burnOutside() {
        Trial.sentence("IllegalArgumentException: there is no such block or byte, or v is not 0 .. 255.");
        int[][] wrong = {{-1, 0, 1}, {32, 0, 1}, {LEAST, 0, 1}, {MOST, 0, 1}, {5, -1, 1}, {5, 16, 1}, {5, LEAST, 1},
            {5, MOST, 1}, {5, 5, -1}, {5, 5, 256}, {5, 5, LEAST}, {5, 5, MOST}, {32, 16, 256}};
        for (int[] w : wrong) {
            String what = "burn(" + w[0] + ", " + w[1] + ", " + w[2] + ")";
            Trial.refusedWhole(what, RUNNING, x -> x.burn(w[0], w[1], w[2]), ARGUMENT);
        }
        DeskMachine x = new DeskMachine();
        for (int b : new int[] {0, 31}) {
            for (int i : new int[] {0, 15}) {
                for (int v : new int[] {255, 0}) {
                    Trial.due("burn(" + b + ", " + i + ", " + v + ")", x.burn(b, i, v), true);
                    Trial.due("disk(" + b + ", " + i + ")", x.disk(b, i), v);
                }
            }
        }
    }

    /** A machine that has shown 13 and then the characters 100, 101 and so on, count in all. */
    private static DeskMachine showing(int count) {
        // MVI E 100, MVI C 2, and at 260: CALL 5, INC E, JMP 260
        DeskMachine x = Trial.begun(30, 100, 14, 2, 205, 5, 0, 28, 195, 4, 1);
        x.run(2);
        for (int shown = 1; shown < count; shown++) {
            x.run(4);
        }
        return x;
    }

    private static void shownKept() {
        Trial.sentence("The i-th last character that was shown (0 the last; 64 are kept).");
        DeskMachine less = showing(63);
        Trial.due("the first of 63", less.shown(62), 13);
        Trial.due("the 64th of 63", less.shown(63), DeskMachine.NONE);
        DeskMachine just = showing(64);
        Trial.due("the last of 64", just.shown(0), 162);
        Trial.due("the first of 64", just.shown(63), 13);
        Trial.due("the 65th of 64", just.shown(64), DeskMachine.NONE);
        DeskMachine more = showing(65);
        Trial.due("the last of 65", more.shown(0), 163);
        Trial.due("the second of 65", more.shown(63), 100);
        Trial.due("the first of 65", more.shown(64), DeskMachine.NONE);
        DeskMachine twice = showing(130);
        for (int i = 0; i < 64; i++) {
            Trial.due("shown(" + i + ") of 130", twice.shown(i), 228 - i);
        }
        Trial.due("shown(64) of 130", twice.shown(64), DeskMachine.NONE);
        Trial.due("in all", twice.about(2), 130);
    }

    private static void shownNone() {
        Trial.sentence("NONE when there is none.");
        DeskMachine x = new DeskMachine();
        DeskMachine y = showing(70);
        for (int i : new int[] {-1, 64, 65, LEAST, MOST}) {
            Trial.due("shown(" + i + ") of none", x.shown(i), DeskMachine.NONE);
            Trial.due("shown(" + i + ") of 70", y.shown(i), DeskMachine.NONE);
        }
        Trial.due("shown(0) of none", x.shown(0), DeskMachine.NONE);
        Trial.type(x, "");
        Trial.due("shown(1) of two", x.shown(1), 13);
        Trial.due("shown(2) of two", x.shown(2), DeskMachine.NONE);
    }

    private static void registerNone() {
        Trial.sentence("NONE for another one.");
        DeskMachine x = running();
        for (int r : new int[] {-1, 11, 16, 256, LEAST, MOST}) {
            Trial.due("register(" + r + ")", x.register(r), DeskMachine.NONE);
        }
        Trial.due("register(0)", x.register(0), 0);
        Trial.due("register(10)", x.register(10), 128);
    }

    private static void registerFlags() {
        Trial.sentence("6: the flags as a byte (2 at first: bits 1, 3 and 5 of what is popped are lost)");
        Trial.due("at first", new DeskMachine().register(6), 2);
        int[] popped = {0, 2, 8, 32, 42, 255, 213, 1, 4, 16, 64, 128};
        int[] kept = {2, 2, 2, 2, 2, 215, 215, 3, 6, 18, 66, 130};
        for (int i = 0; i < popped.length; i++) {
            // LXI B, PUSH B, POP A and flags, PUSH A and flags, POP D
            DeskMachine x = Trial.begun(1, popped[i], 90, 197, 241, 245, 209);
            x.run(3);
            Trial.due("flags of " + popped[i], x.register(6), kept[i]);
            Trial.due("A", x.register(7), 90);
            x.run(2);
            Trial.due("pushed again", x.register(3), kept[i]);
        }
    }

    private static void registerWords() {
        Trial.sentence("8 SP, 9 PC, 10 BUFFER.");
        // LXI SP, LXI D, MVI C 26, and a jump to 65530 for the call of 5 behind it
        DeskMachine x = Trial.begun(49, 255, 255, 17, 254, 255, 14, 26, 195, 250, 255);
        Trial.pokes(x, 506, 205, 5, 0);
        x.run(4);
        Trial.due("SP", x.register(8), 65535);
        Trial.due("PC", x.register(9), 65530);
        x.run(2);
        Trial.due("PC behind the call", x.register(9), 65533);
        Trial.due("BUFFER", x.register(10), 65534);
    }

    private static void aboutNone() {
        Trial.sentence("NONE for another what.");
        for (DeskMachine x : new DeskMachine[] {typing(), running(), waiting()}) {
            for (int what : new int[] {-1, 5, 6, LEAST, MOST}) {
                Trial.due("about(" + what + ")", x.about(what), DeskMachine.NONE);
            }
        }
    }

    private static void aboutWaits() {
        Trial.sentence("2 it waits (till run(), also when a key has come)");
        DeskMachine x = Trial.begun(14, 1, 205, 5, 0, 118);
        x.run(9);
        Trial.due("without a key", x.about(0), 2);
        x.key(1);
        Trial.due("when a key has come", x.about(0), 2);
        x.key(2);
        x.poke(0, 0);
        x.burn(9, 9, 9);
        Trial.due("whatever comes but run()", x.about(0), 2);
        Trial.refused("run(0)", () -> x.run(0));
        Trial.due("a refused run is none", x.about(0), 2);
        x.run(1);
        Trial.due("behind run()", x.about(0), 1);
        x.run(1);
        Trial.due("behind the halt", x.about(0), 0);
    }

    private static void aboutCounts() {
        Trial.sentence("1: keys that wait; 2: characters shown in all; 3: steps in all");
        DeskMachine x = new DeskMachine();
        Trial.due("no key", x.about(1), 0);
        for (int i = 1; i <= 40; i++) {
            x.key(13);
            Trial.due("keys", x.about(1), i);
        }
        Trial.due("forty lines", x.run(1000), 40);
        Trial.due("keys", x.about(1), 0);
        Trial.due("more than are kept", x.about(2), 80);
        Trial.due("steps", x.about(3), 40);
        x.run(1000);
        Trial.due("no steps without keys", x.about(3), 40);
        DeskMachine y = Trial.begun(195, 0, 1);
        y.run(1000);
        y.run(1000);
        Trial.due("steps at the desk and of a program", y.about(3), 2003);
    }

    private static void aboutLine() {
        Trial.sentence("4: how long the line at the desk is.");
        DeskMachine x = new DeskMachine();
        for (int i = 1; i <= 22; i++) {
            x.key(32);
            x.run(1);
            Trial.due("line behind " + i + " keys", x.about(4), Math.min(i, 20));
        }
        x.key(13);
        x.run(1);
        Trial.due("behind its end", x.about(4), 0);
        DeskMachine y = Trial.begun(118);
        Trial.due("of one that runs", y.about(4), 0);
        y.key(65);
        Trial.due("a key is no line", y.about(4), 0);
        y.run(2);
        Trial.due("behind the halt and a key", y.about(4), 1);
    }
}
