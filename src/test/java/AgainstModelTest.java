import java.util.ArrayList;
import java.util.List;
import java.util.Random;
import java.util.function.Consumer;

/**
 * Random runs of calls, compared with the model in everything that can be seen. To look at all of it takes more
 * than the 512 calls that an object is good for: the run is done again on as many new objects as that needs.
 */
public final class AgainstModelTest {
    private static final String[] NAMES = {"A", "B", "AB", "A?", "?", "????", "LONGER", "LONG", "C", "Z9"};
    private static final int[] CALLS = {1, 1, 2, 9, 11, 15, 15, 16, 17, 18, 18, 19, 20, 20, 21, 21, 21, 22, 22, 23, 26, 3, 0};

    private static final int GOOD_FOR = 512;
    /** A run ends behind so many calls; what it does last may take some sixty more. */
    private static final int LONG_RUN = 340;

    private final Random random;
    private final List<Consumer<DeskMachine>> calls = new ArrayList<>();
    private DeskMachine x = new DeskMachine();
    private int used = 0;
    private final Model m = new Model();
    private final long seed;

    private AgainstModelTest(long seed) {
        this.seed = seed;
        random = new Random(seed);
    }

    public static void main(String[] args) {
        int runs = args.length > 0 ? Integer.parseInt(args[0]) : 10000;
        long[] seen = new long[3];
        for (int seed = 0; seed < runs; seed++) {
            AgainstModelTest t = new AgainstModelTest(seed);
            t.go();
            seen[t.m.state]++;
        }
        System.out.println("ends: " + seen[0] + " at the desk, " + seen[1] + " running, " + seen[2] + " waiting");
        Trial.end();
    }

    /** Ends anywhere, so that what is seen only for a while is met by some run. */
    private void go() {
        int acts = 1 + random.nextInt(40);
        for (int i = 0; i < acts && used < LONG_RUN; i++) {
            act();
        }
        compare();
    }

    private void note(Consumer<DeskMachine> call) {
        calls.add(call);
        used++;
    }

    /** The object to look at next, a new one behind the same run if the last is used up. */
    private DeskMachine look() {
        if (used == GOOD_FOR) {
            x = new DeskMachine();
            calls.forEach(call -> call.accept(x));
            used = calls.size();
        }
        used++;
        return x;
    }

    private int pick(int... of) {
        return of[random.nextInt(of.length)];
    }

    private String name() {
        return NAMES[random.nextInt(NAMES.length)];
    }

    private void act() {
        switch (random.nextInt(20)) {
            case 0 -> randomBytes();
            case 1, 2 -> callProgram();
            case 3, 4 -> burnEntry();
            case 5, 6 -> fileBlock();
            case 7, 8, 9 -> line();
            case 10 -> type(random.nextInt(4) == 0 ? 13 : random.nextInt(256));
            case 11 -> mixedProgram();
            case 12, 13, 14, 15 -> begin();
            default -> step(pick(1, 2, 5, 30, 200, 1000));
        }
    }

    private void poke(int at, int v) {
        x.poke(at & 511, v & 255);
        note(y -> y.poke(at & 511, v & 255));
        m.mem[at & 511] = v & 255;
    }

    private void burn(int block, int i, int v) {
        x.burn(block, i, v);
        note(y -> y.burn(block, i, v));
        m.disk[16 * block + i] = v;
    }

    private void type(int k) {
        if (m.keys.size() < 40) {
            m.keys.add(k);
            Trial.due("seed " + seed + ": key", x.key(k), m.keys.size());
            note(y -> y.key(k));
        } else {
            Trial.throwsDue("seed " + seed + ": key", () -> x.key(k), IllegalStateException.class);
            used++;
        }
    }

    private void step(int n) {
        Trial.due("seed " + seed + ": run(" + n + ")", x.run(n), m.run(n));
        note(y -> y.run(n));
    }

    private void randomBytes() {
        int from = pick(0, 60, 128, 256, 256, 300, 400, 480);
        for (int i = 0; i < 40; i++) {
            poke(from + i, random.nextInt(256));
        }
    }

    /** Calls of the system one behind the other, then round again or an end. */
    private void callProgram() {
        int at = 256;
        int count = 1 + random.nextInt(6);
        for (int i = 0; i < count; i++) {
            int de = pick(0, 20, 30, 96, 96, 96, 96, 96, 100, 128, 250, 480, 505, 65530, 1120);
            int[] code = {14, pick(CALLS), 17, de & 255, de >> 8, 205, 5, 0};
            for (int v : code) {
                poke(at++, v);
            }
        }
        int[] end = random.nextBoolean() ? new int[] {195, 0, 1} : new int[] {pick(118, 201, 199, 233), 0, 0};
        for (int v : end) {
            poke(at++, v);
        }
    }

    /** Any instructions but those that leave, so that runs are long. */
    private void mixedProgram() {
        int end = 256 + random.nextInt(50);
        for (int at = 256; at < end; at++) {
            int code = random.nextInt(256);
            boolean leaves = code == 118 || code >= 192 && (code & 7) != 6 && random.nextInt(3) > 0;
            poke(at, leaves ? random.nextInt(192) & 191 : code);
        }
        poke(end, 195);
        poke(end + 1, 0);
        poke(end + 2, 1);
    }

    private void putName(int kind, int at, String name) {
        for (int i = 0; i < 4; i++) {
            int v = i < name.length() ? name.charAt(i) : 32;
            if (kind < 0) {
                poke(at + i, v);
            } else {
                burn(kind, at + i, v);
            }
        }
    }

    private void burnEntry() {
        int entry = random.nextInt(8);
        burn(entry, 0, pick(0, 0, 0, 229, 1, 255));
        putName(entry, 1, name());
        burn(entry, 5, pick(0, 1, 2, 5, 9, 10, 11, 255));
        for (int i = 6; i < 16; i++) {
            burn(entry, i, random.nextInt(4) == 0 ? pick(0, 7, 8, 31, 32, 255) : random.nextInt(34));
        }
        burn(8 + random.nextInt(24), random.nextInt(16), pick(26, 36, 118, 201, 65));
    }

    private void fileBlock() {
        int at = pick(0, 20, 96, 96, 96, 96, 128, 480, 505);
        putName(-1, at + 1, name());
        poke(at + 5, pick(0, 1, 3, 9, 10, 11, 255));
        for (int i = 6; i < 16; i++) {
            poke(at + i, random.nextInt(3) == 0 ? random.nextInt(36) : 8 + random.nextInt(24));
        }
        poke(at + 16, pick(0, 0, 1, 2, 9, 10, 255));
        putName(-1, at + 17, name());
    }

    /** Loads a file without records, so that what lies at 256 runs. */
    private void begin() {
        burn(7, 0, 0);
        putName(7, 1, "GO");
        burn(7, 5, 0);
        type(13);
        type('G');
        type('O');
        type(13);
        step(pick(4, 4, 5, 10, 60, 400));
    }

    private void line() {
        String text = switch (random.nextInt(9)) {
            case 0 -> "LIST";
            case 1 -> "SHOW " + name();
            case 2 -> "DROP " + (random.nextInt(3) == 0 ? name() : "B");
            case 3 -> "CALL " + name() + "  " + name();
            case 4, 5 -> "SAVE " + pick(0, 1, 2, 3, 7, 9, 10) + " " + name();
            case 6 -> "SAVE " + name() + " " + name();
            default -> name() + (random.nextBoolean() ? " x" : "");
        };
        if (random.nextInt(8) == 0) {
            text = " ".repeat(random.nextInt(12)) + text;
        }
        if (random.nextInt(12) == 0) {
            text = text.substring(0, random.nextInt(text.length() + 1));
        }
        for (char k : text.toCharArray()) {
            type(k);
        }
        type(13);
        step(text.length() + 1);
    }

    private void compare() {
        String where = "seed " + seed + ": ";
        boolean same = true;
        for (int i = 0; i < 512; i++) {
            same &= look().peek(i) == m.mem[i];
            same &= look().disk(i / 16, i % 16) == m.disk[i];
        }
        Trial.due(where + "memory and disk are the same", same, true);
        for (int i = -1; i <= 64; i++) {
            Trial.due(where + "shown(" + i + ")", look().shown(i), m.shown(i));
        }
        for (int i = -1; i <= 11; i++) {
            Trial.due(where + "register(" + i + ")", look().register(i), m.register(i));
            Trial.due(where + "about(" + i + ")", look().about(i), m.about(i));
        }
    }
}
