import java.util.function.Consumer;
import java.util.function.Supplier;

/** What the tests share: the count of wrong answers, and hands to type and to write programs with. */
final class Trial {
    /** In how many parts everything that can be seen is looked at, none of them near 512 calls. */
    private static final int PARTS = 8;

    private static int checks = 0;
    private static int wrong = 0;
    private static String sentence = "";

    private Trial() {
    }

    /** What follows is due by these words of the document; they are printed with what is wrong. */
    static void sentence(String words) {
        sentence = "[" + words + "] ";
    }

    private static void tell(String what) {
        wrong++;
        System.out.println(sentence + what);
    }

    static void due(String what, long got, long want) {
        checks++;
        if (got != want) {
            tell(what + " answered " + got + ", due is " + want);
        }
    }

    static void due(String what, boolean got, boolean want) {
        due(what, got ? 1 : 0, want ? 1 : 0);
    }

    static void due(String what, String got, String want) {
        checks++;
        if (!got.equals(want)) {
            tell(what + " answered " + readable(got) + ", due is " + readable(want));
        }
    }

    /** The name of the exception that is due, without its package. */
    static void throwsDue(String what, Runnable call, Class<?> want) {
        checks++;
        Class<?> got = null;
        try {
            call.run();
        } catch (RuntimeException e) {
            got = e.getClass();
        }
        if (got != want) {
            tell(what + " threw " + got + ", due is " + want);
        }
    }

    static void refused(String what, Runnable call) {
        throwsDue(what, call, IllegalArgumentException.class);
    }

    /** The call throws, and leaves everything that can be seen as it was. */
    static void refusedWhole(String what, Supplier<DeskMachine> making, Consumer<DeskMachine> call, Class<?> want) {
        for (int part = 0; part < PARTS; part++) {
            DeskMachine x = making.get();
            throwsDue(what, () -> call.accept(x), want);
            due(what + " changes nothing", seen(x, part), seen(making.get(), part));
        }
    }

    /** The same number of machines each time: one object is good for 512 calls only. */
    private static String seen(DeskMachine x, int part) {
        StringBuilder b = new StringBuilder();
        for (int i = 0; i < 512 / PARTS; i++) {
            int at = part * (512 / PARTS) + i;
            b.append(x.peek(at)).append(' ').append(x.disk(at / 16, at % 16)).append(' ');
        }
        for (int i = 0; i < 64; i++) {
            b.append(x.shown(i)).append(' ');
        }
        for (int r = 0; r <= 10; r++) {
            b.append(x.register(r)).append(' ');
        }
        for (int what = 0; what <= 4; what++) {
            b.append(x.about(what)).append(' ');
        }
        return b.toString();
    }

    /** System call c with de answers want in A, and no byte of the disk or of memory below 256 changes. */
    static void callChangesNothing(String what, Supplier<DeskMachine> making, int c, int de, int want) {
        for (int from = 0; from < 256; from += 128) {
            DeskMachine x = making.get();
            String before = memory(x, from, 128);
            due(what, call(x, c, de), want);
            due(what + ": memory", memory(x, from, 128), before);
        }
        for (int from = 0; from < 32; from += 8) {
            DeskMachine x = making.get();
            String before = blocks(x, from, 8);
            call(x, c, de);
            due(what + ": disk", blocks(x, from, 8), before);
        }
    }

    static void end() {
        System.out.println(checks + " checks, " + wrong + " wrong");
        if (wrong != 0 || checks == 0) {
            System.exit(1);
        }
    }

    private static String readable(String text) {
        StringBuilder b = new StringBuilder("\"");
        for (char c : text.toCharArray()) {
            if (c >= 32 && c < 127) {
                b.append(c);
            } else {
                b.append('<').append((int) c).append('>');
            }
        }
        return b.append('"').toString();
    }

    static void keys(DeskMachine x, String text) {
        for (char c : text.toCharArray()) {
            x.key(c);
        }
    }

    /** Types a line and its end, and gives it just its steps. Answers what it made the machine show. */
    static String type(DeskMachine x, String line) {
        int before = x.about(2);
        keys(x, line + "\r");
        due("run of the line " + line, x.run(line.length() + 1), line.length() + 1);
        return shownSince(x, before);
    }

    static String shownSince(DeskMachine x, int before) {
        int count = Math.min(64, x.about(2) - before);
        StringBuilder b = new StringBuilder();
        for (int i = count - 1; i >= 0; i--) {
            b.append((char) x.shown(i));
        }
        return b.toString();
    }

    static void pokes(DeskMachine x, int a, int... bytes) {
        for (int i = 0; i < bytes.length; i++) {
            x.poke(a + i, bytes[i]);
        }
    }

    static void pokes(DeskMachine x, int a, String text) {
        for (int i = 0; i < text.length(); i++) {
            x.poke(a + i, text.charAt(i));
        }
    }

    static void burns(DeskMachine x, int b, int i, int... bytes) {
        for (int j = 0; j < bytes.length; j++) {
            x.burn(b, i + j, bytes[j]);
        }
    }

    /** An entry that is not free, of this name (four characters), with these blocks for its records. */
    static void entry(DeskMachine x, int e, String name, int... blocks) {
        x.burn(e, 0, 0);
        for (int i = 0; i < 4; i++) {
            x.burn(e, 1 + i, name.charAt(i));
        }
        x.burn(e, 5, blocks.length);
        for (int i = 0; i < 10; i++) {
            x.burn(e, 6 + i, i < blocks.length ? blocks[i] : 0);
        }
    }

    /** A file block without records at a, whose next record is 0. */
    static void fileBlock(DeskMachine x, int a, String name) {
        pokes(x, a, new int[21]);
        pokes(x, a + 1, name);
    }

    /** A machine that has just loaded and begun the empty file "GO", with the program lying at 256. */
    static DeskMachine begun(int... program) {
        DeskMachine x = new DeskMachine();
        entry(x, 7, "GO  ");
        begin(x, program);
        return x;
    }

    static void begin(DeskMachine x, int... program) {
        pokes(x, 256, program);
        type(x, "GO");
        due("it runs", x.about(0), 1);
    }

    /** Makes the running machine do call c with de from an address of its own, and answers A. */
    static int call(DeskMachine x, int c, int de) {
        int[] go = {14, c, 17, de & 255, de >> 8, 205, 5, 0, 195, 144, 1};
        pokes(x, 400, go);
        if (x.register(9) != 400) {
            int a = x.register(9) & 511;
            pokes(x, a, 195, 144, 1);
            x.run(1);
        }
        due("steps of call " + c, x.run(4), 4);
        due("PC behind call " + c, x.register(9), 408);
        x.run(1);
        return x.register(7);
    }

    static String memory(DeskMachine x, int a, int count) {
        StringBuilder b = new StringBuilder();
        for (int i = 0; i < count; i++) {
            b.append((char) x.peek((a + i) & 511));
        }
        return b.toString();
    }

    static String block(DeskMachine x, int b, int from, int count) {
        StringBuilder s = new StringBuilder();
        for (int i = 0; i < count; i++) {
            s.append((char) x.disk(b, from + i));
        }
        return s.toString();
    }

    static String blocks(DeskMachine x, int from, int count) {
        StringBuilder s = new StringBuilder();
        for (int b = from; b < from + count; b++) {
            s.append(block(x, b, 0, 16));
        }
        return s.toString();
    }

    static String bytes(int... values) {
        StringBuilder s = new StringBuilder();
        for (int v : values) {
            s.append((char) v);
        }
        return s.toString();
    }
}
