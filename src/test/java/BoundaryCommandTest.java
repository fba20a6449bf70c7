import java.util.function.Supplier;

/** The boundary cases that the section "Terms" names for the desk and its commands, a test for each sentence. */
public final class BoundaryCommandTest {
    private static final String DONE = "\r>";
    private static final String REFUSED = "?\r>";

    public static void main(String[] args) {
        atFirst();
        keysOfLine();
        longestLine();
        keysAreSteps();
        words();
        noWord();
        names();
        list();
        showRecords();
        showBlocks();
        showEnd();
        drop();
        dropNone();
        call();
        saveDigits();
        saveNoDigit();
        saveFreesFirst();
        saveJustThisName();
        saveNoEntry();
        saveNoBlock();
        saveKeepsOwnBlocks();
        loadRecords();
        loadBlocks();
        loadProcessor();
        loadJustThisName();
        justTheseWords();
        furtherWords();
        missingWords();
        freeNeverMatches();
        endOfLine();
        endOfProgram();
        Trial.end();
    }

    private static String zeros(int count) {
        return Trial.bytes(new int[count]);
    }

    private static void text(DeskMachine x, int block, int from) {
        for (int i = 0; i < 16; i++) {
            x.burn(block, i, (from + i) & 255);
        }
    }

    private static String textOf(int from) {
        StringBuilder b = new StringBuilder();
        for (int i = 0; i < 16; i++) {
            b.append((char) ((from + i) & 255));
        }
        return b.toString();
    }

    /** The line changes nothing on the disk, and shows 63. */
    private static void refused(Supplier<DeskMachine> making, String line) {
        for (int from = 0; from < 32; from += 8) {
            DeskMachine x = making.get();
            String before = Trial.blocks(x, from, 8);
            Trial.due(line, Trial.type(x, line), REFUSED);
            Trial.due(line + " changes nothing", Trial.blocks(x, from, 8), before);
            Trial.due(line + " leaves it at the desk", x.about(0), 0);
        }
    }

    private static void atFirst() {
        Trial.sentence("COMMANDS: the machine is at the DESK at first");
        DeskMachine x = new DeskMachine();
        Trial.due("about(0)", x.about(0), 0);
        Trial.due("a line", Trial.type(x, "LIST"), DONE);
        Trial.due("PC is 0 all the time", x.register(9), 0);
        Trial.due("still at the desk", x.about(0), 0);
    }

    private static void keysOfLine() {
        Trial.sentence("There, keys 32 .. 126 make a LINE");
        for (int k = 0; k < 256; k++) {
            DeskMachine x = new DeskMachine();
            x.key(k);
            x.run(1);
            Trial.due("line behind key " + k, x.about(4), k >= 32 && k <= 126 ? 1 : 0);
            Trial.due("shown behind key " + k, x.about(2), k == 13 ? 2 : 0);
        }
        DeskMachine y = new DeskMachine();
        Trial.entry(y, 0, "~~~~");
        Trial.due("126 is in a name", Trial.type(y, "~~~~"), "\r");
        DeskMachine z = new DeskMachine();
        Trial.entry(z, 0, "AB  ");
        Trial.due("others are lost", Trial.type(z, Trial.bytes('A', 31, 127, 128, 255, 0, 10, 8, 'B')), "\r");
    }

    private static void longestLine() {
        Trial.sentence("(up to 20 characters; more and other keys are lost");
        DeskMachine x = new DeskMachine();
        Trial.entry(x, 0, "FILE");
        Trial.due("20 characters", Trial.type(x, "                FILE"), "\r");
        DeskMachine y = new DeskMachine();
        Trial.entry(y, 0, "FILE");
        Trial.due("the 21st is lost", Trial.type(y, "                 FILE"), REFUSED);
        Trial.entry(y, 0, "FIL ");
        Trial.due("the others are not", Trial.type(y, "                 FILE"), "\r");
        DeskMachine z = new DeskMachine();
        Trial.entry(z, 0, "FILE");
        Trial.due("the next line begins anew", Trial.type(z, "123456789012345678901234"), REFUSED);
        Trial.due("it is whole", Trial.type(z, "FILE"), "\r");
        DeskMachine w = new DeskMachine();
        Trial.entry(w, 0, "FILE");
        Trial.keys(w, "12345678901234567890");
        w.run(20);
        Trial.due("a line of 20", w.about(4), 20);
        w.key('1');
        Trial.due("one more is a step", w.run(5), 1);
        Trial.due("a line of 20 still", w.about(4), 20);
        w.key(200);
        Trial.due("another one, too", w.run(5), 1);
        w.key(13);
        Trial.due("its end is not lost", w.run(5), 1);
        Trial.due("line", w.about(4), 0);
    }

    private static void keysAreSteps() {
        Trial.sentence("each a step all the same");
        DeskMachine x = new DeskMachine();
        Trial.keys(x, Trial.bytes(0, 10, 31, 127, 255, 65));
        Trial.due("six keys", x.run(1000), 6);
        Trial.due("steps in all", x.about(3), 6);
        Trial.due("line", x.about(4), 1);
        DeskMachine y = new DeskMachine();
        Trial.keys(y, "1234567890123456789012345");
        Trial.due("25 keys", y.run(1000), 25);
        Trial.due("steps in all", y.about(3), 25);
    }

    private static void words() {
        Trial.sentence("words between spaces (32)");
        String[] lines = {"SHOW F", " SHOW F", "SHOW F ", "   SHOW   F   ", "SHOW F               "};
        for (String line : lines) {
            DeskMachine x = new DeskMachine();
            Trial.entry(x, 0, "F   ", 8);
            text(x, 8, 65);
            Trial.due(line, Trial.type(x, line), textOf(65) + DONE);
        }
        // A tab is lost, and so divides no words.
        DeskMachine y = new DeskMachine();
        Trial.due("a tab", Trial.type(y, "SHOW\tF"), REFUSED);
        Trial.entry(y, 0, "SHOW");
        Trial.due("makes one word", Trial.type(y, "SHOW\tF"), "\r");
    }

    private static void noWord() {
        Trial.sentence("No word: nothing (but 13 and 62, below).");
        for (String line : new String[] {"", " ", "                    ", "                         ", "\t\n"}) {
            DeskMachine x = new DeskMachine();
            Trial.entry(x, 0, "    ");
            Trial.due("\"" + line + "\"", Trial.type(x, line), DONE);
            Trial.due("at the desk", x.about(0), 0);
        }
    }

    private static void names() {
        Trial.sentence("A name has the first four characters of a word, filled up with spaces (32).");
        String[] typed = {"A", "AB", "ABC", "ABCD", "ABCDE", "ABCDEFGH"};
        String[] names = {"A   ", "AB  ", "ABC ", "ABCD", "ABCD", "ABCD"};
        for (int i = 0; i < typed.length; i++) {
            DeskMachine x = new DeskMachine();
            Trial.due("SAVE 0 " + typed[i], Trial.type(x, "SAVE 0 " + typed[i]), DONE);
            Trial.due("its name", Trial.block(x, 0, 1, 4), names[i]);
            Trial.due("SHOW " + typed[i], Trial.type(x, "SHOW " + typed[i]), DONE);
            Trial.due("CALL " + typed[i], Trial.type(x, "CALL " + typed[i] + " Z"), DONE);
            Trial.due("CALL Z " + typed[i], Trial.type(x, "CALL Z " + typed[i]), DONE);
            Trial.due("its name again", Trial.block(x, 0, 1, 4), names[i]);
            Trial.due("a run of " + typed[i], Trial.type(x, typed[i]), "\r");
            x.poke(256, 118);
            x.run(1);
            Trial.due("DROP " + typed[i], Trial.type(x, "DROP " + typed[i]), DONE);
            Trial.due("it is free", x.disk(0, 0), 229);
        }
        DeskMachine y = new DeskMachine();
        Trial.entry(y, 0, Trial.bytes('A', 0, 0, 0));
        Trial.due("not with zeros", Trial.type(y, "A"), REFUSED);
    }

    private static void list() {
        Trial.sentence("LIST: for each entry that is not free, by its number, its name and a 32 are shown.");
        DeskMachine none = new DeskMachine();
        Trial.due("none", Trial.type(none, "LIST"), DONE);
        DeskMachine all = new DeskMachine();
        for (int e = 7; e >= 0; e--) {
            Trial.entry(all, e, "N" + e + "  ");
        }
        Trial.due("all", Trial.type(all, "LIST"), "N0   N1   N2   N3   N4   N5   N6   N7   " + DONE);
        DeskMachine odd = new DeskMachine();
        Trial.entry(odd, 0, Trial.bytes(0, 26, 36, 255));
        odd.burn(0, 0, 228);
        Trial.entry(odd, 7, "????");
        odd.burn(7, 0, 230);
        Trial.due("any bytes", Trial.type(odd, "LIST"), Trial.bytes(0, 26, 36, 255) + " ???? " + DONE);
    }

    private static void showRecords() {
        Trial.sentence("SHOW name: all bytes of the file's records (that byte 5 says, at most 10");
        int[] counts = {0, 1, 9, 10, 11, 255};
        for (int count : counts) {
            DeskMachine x = new DeskMachine();
            Trial.entry(x, 7, "F   ", 8, 9, 10, 11, 12, 13, 14, 15, 16, 17);
            x.burn(7, 5, count);
            for (int b = 8; b < 18; b++) {
                x.burn(b, 15, b);
                x.burn(b, 0, 100 + b);
            }
            int due = Math.min(count, 10);
            String shown = Trial.type(x, "SHOW F");
            Trial.due("shown of byte 5 " + count, x.about(2), 16 * due + 2);
            if (due > 0) {
                Trial.due("the last record's last byte", x.shown(2), 7 + due);
                Trial.due("its first byte", x.shown(17), 107 + due);
            } else {
                Trial.due("nothing", shown, DONE);
            }
        }
    }

    private static void showBlocks() {
        Trial.sentence("those with blocks 8 .. 31) are shown");
        int[] blocks = {0, 1, 7, 8, 31, 32, 39, 255};
        for (int block : blocks) {
            DeskMachine x = new DeskMachine();
            Trial.entry(x, 0, "F   ", block, 20);
            text(x, 8, 65);
            text(x, 31, 97);
            text(x, 20, 40);
            String first = block == 8 ? textOf(65) : block == 31 ? textOf(97) : "";
            Trial.due("block " + block, Trial.type(x, "SHOW F"), first + textOf(40) + DONE);
        }
    }

    private static void showEnd() {
        Trial.sentence("up to the first byte 26 of them all (without it)");
        for (int at : new int[] {0, 1, 15, 16, 31, 32}) {
            DeskMachine x = new DeskMachine();
            Trial.entry(x, 0, "F   ", 8, 9, 10);
            text(x, 8, 65);
            text(x, 9, 65);
            text(x, 10, 65);
            x.burn(8 + at / 16, at % 16, 26);
            Trial.due("26 at byte " + at, Trial.type(x, "SHOW F"),
                    (textOf(65) + textOf(65) + textOf(65)).substring(0, at) + DONE);
        }
        DeskMachine y = new DeskMachine();
        Trial.entry(y, 0, "F   ", 8, 0, 9);
        text(y, 8, 65);
        text(y, 9, 65);
        // 26 in the directory, where a record without a block would be
        y.burn(0, 15, 26);
        y.burn(9, 3, 26);
        Trial.due("26 behind a record without a block", Trial.type(y, "SHOW F"), textOf(65) + "ABC" + DONE);
        y.burn(9, 3, 36);
        Trial.due("36 is no end", Trial.type(y, "SHOW F").length(), 34);
    }

    private static void drop() {
        Trial.sentence("DROP name: as ERASE (63 too).");
        DeskMachine x = new DeskMachine();
        for (int e = 0; e < 8; e++) {
            Trial.entry(x, e, e % 2 == 0 ? "AB  " : "AC  ", 8 + e);
        }
        x.burn(3, 0, 9);
        Trial.due("all of one name", Trial.type(x, "DROP AC"), DONE);
        for (int e = 0; e < 8; e++) {
            Trial.due("entry " + e, Trial.block(x, e, 0, 7), Trial.bytes(e % 2 == 0 ? 0 : 229)
                    + (e % 2 == 0 ? "AB  " : "AC  ") + Trial.bytes(1, 8 + e));
        }
        Trial.due("63 is not a space", Trial.type(x, "DROP ?"), DONE);
        Trial.due("so none went", x.disk(0, 0), 0);
        Trial.due("63", Trial.type(x, "DROP ??"), DONE);
        Trial.due("all went", Trial.type(x, "LIST"), DONE);
    }

    private static void dropNone() {
        Trial.sentence("no such file (but for DROP)");
        DeskMachine x = new DeskMachine();
        Trial.due("DROP of an empty directory", Trial.type(x, "DROP ????"), DONE);
        Trial.entry(x, 0, "FILE", 8);
        Trial.due("DROP of none", Trial.type(x, "DROP FIL"), DONE);
        Trial.due("the file stays", x.disk(0, 0), 0);
        Supplier<DeskMachine> making = () -> {
            DeskMachine y = new DeskMachine();
            Trial.entry(y, 0, "FILE", 8);
            return y;
        };
        refused(making, "SHOW FIL");
        refused(making, "CALL FIL NEW");
        refused(making, "FIL");
    }

    private static void call() {
        Trial.sentence("CALL name name: as RENAME, of the first one to the second.");
        DeskMachine x = new DeskMachine();
        Trial.entry(x, 2, "OLD ", 9);
        Trial.entry(x, 5, "OLD ", 10);
        x.burn(2, 0, 7);
        Trial.due("CALL", Trial.type(x, "CALL OLD N?W"), DONE);
        Trial.due("the first", Trial.block(x, 2, 0, 7), Trial.bytes(7) + "N?W " + Trial.bytes(1, 9));
        Trial.due("the second stays", Trial.block(x, 5, 1, 4), "OLD ");
        Trial.due("to its own name", Trial.type(x, "CALL OLD OLD"), DONE);
        Trial.due("to another's name", Trial.type(x, "CALL OLD N?W"), DONE);
        Trial.due("both have it", Trial.block(x, 5, 1, 4), "N?W ");
        Supplier<DeskMachine> making = () -> {
            DeskMachine y = new DeskMachine();
            Trial.entry(y, 2, "OLD ", 9);
            return y;
        };
        refused(making, "CALL O?D NEW");
        refused(making, "CALL ???? NEW");
    }

    private static void saveDigits() {
        Trial.sentence("as many records (0 .. 9) written from address 256 on as the digit says (byte 5 grows with each)");
        for (int digit = 0; digit <= 9; digit++) {
            DeskMachine x = new DeskMachine();
            for (int i = 0; i < 10; i++) {
                x.poke(256 + 16 * i, 50 + i);
                x.poke(271 + 16 * i, 80 + i);
            }
            Trial.due("SAVE " + digit, Trial.type(x, "SAVE " + digit + " F"), DONE);
            Trial.due("byte 0, name and byte 5", Trial.block(x, 0, 0, 6), Trial.bytes(0) + "F   " + Trial.bytes(digit));
            for (int i = 0; i < 10; i++) {
                boolean has = i < digit;
                Trial.due("block of record " + i, x.disk(0, 6 + i), has ? 8 + i : 0);
                Trial.due("its first byte", x.disk(8 + i, 0), has ? 50 + i : 0);
                Trial.due("its last byte", x.disk(8 + i, 15), has ? 80 + i : 0);
            }
        }
    }

    private static void saveNoDigit() {
        Trial.sentence("no such digit (a word of one digit)");
        Supplier<DeskMachine> making = () -> {
            DeskMachine x = new DeskMachine();
            Trial.entry(x, 0, "F   ", 8, 9);
            x.poke(256, 5);
            return x;
        };
        for (String word : new String[] {"/", ":", "A", "?", "00", "01", "10", "1A", "A1", "-1", "+1", "1.", "0000"}) {
            refused(making, "SAVE " + word + " F");
            refused(making, "SAVE " + word + " NEW");
        }
        refused(making, "SAVE F 1");
    }

    private static void saveFreesFirst() {
        Trial.sentence("SAVE digit name: the first entry of just this name is freed first; then one is made");
        DeskMachine full = new DeskMachine();
        for (int e = 0; e < 8; e++) {
            Trial.entry(full, e, "F" + e + "  ", 8 + e);
        }
        full.poke(256, 5);
        Trial.due("a full directory", Trial.type(full, "SAVE 1 F6"), DONE);
        Trial.due("its own entry and block", Trial.block(full, 6, 0, 8), Trial.bytes(0) + "F6  " + Trial.bytes(1, 14, 0));
        Trial.due("written", full.disk(14, 0), 5);
        DeskMachine before = new DeskMachine();
        Trial.entry(before, 3, "F   ", 8);
        Trial.due("a free one before it", Trial.type(before, "SAVE 0 F"), DONE);
        Trial.due("is made", Trial.block(before, 0, 0, 5), Trial.bytes(0) + "F   ");
        Trial.due("the old one is free, byte 0 alone", Trial.block(before, 3, 0, 7),
                Trial.bytes(229) + "F   " + Trial.bytes(1, 8));
        DeskMachine two = new DeskMachine();
        Trial.entry(two, 0, "X   ");
        Trial.entry(two, 1, "F   ", 8);
        Trial.entry(two, 2, "F   ", 9);
        Trial.due("two of the name", Trial.type(two, "SAVE 1 F"), DONE);
        Trial.due("the first is made anew", Trial.block(two, 1, 0, 8), Trial.bytes(0) + "F   " + Trial.bytes(1, 8, 0));
        Trial.due("the second stays", Trial.block(two, 2, 0, 7), Trial.bytes(0) + "F   " + Trial.bytes(1, 9));
    }

    private static void saveJustThisName() {
        Trial.sentence("SAVE digit name: the first entry of just this name is freed first; then one is made");
        DeskMachine x = new DeskMachine();
        Trial.entry(x, 0, "FILE", 8);
        Trial.due("63", Trial.type(x, "SAVE 1 F?LE"), DONE);
        Trial.due("frees no other", Trial.block(x, 0, 0, 5), Trial.bytes(0) + "FILE");
        Trial.due("is a name", Trial.block(x, 1, 0, 7), Trial.bytes(0) + "F?LE" + Trial.bytes(1, 9));
        Trial.due("again", Trial.type(x, "SAVE 0 F?LE"), DONE);
        Trial.due("it is made anew", Trial.block(x, 1, 0, 6), Trial.bytes(0) + "F?LE" + Trial.bytes(0));
        Trial.due("not twice", x.disk(2, 0), 229);
    }

    private static void saveNoEntry() {
        Trial.sentence("no free entry or block (what was written stays): 63 is shown");
        Supplier<DeskMachine> making = () -> {
            DeskMachine x = new DeskMachine();
            for (int e = 0; e < 8; e++) {
                Trial.entry(x, e, "F" + e + "  ");
                x.burn(e, 0, 222 + e == 229 ? 230 : 222 + e);
            }
            x.poke(256, 5);
            return x;
        };
        refused(making, "SAVE 1 NEW");
        refused(making, "SAVE 0 NEW");
    }

    /** A disk with count blocks, the last ones, that are not used. */
    private static DeskMachine withBlocks(int count) {
        DeskMachine x = new DeskMachine();
        int block = 8;
        for (int e = 0; e < 3; e++) {
            int size = Math.min(10, 32 - count - block);
            int[] blocks = new int[size];
            for (int i = 0; i < size; i++) {
                blocks[i] = block;
                block++;
            }
            Trial.entry(x, e, "E" + e + "  ", blocks);
        }
        for (int i = 0; i < 4; i++) {
            x.poke(256 + 16 * i, 60 + i);
        }
        return x;
    }

    private static void saveNoBlock() {
        Trial.sentence("no free entry or block (what was written stays): 63 is shown");
        for (int left = 0; left <= 3; left++) {
            DeskMachine x = withBlocks(left);
            Trial.due("SAVE 3 with " + left, Trial.type(x, "SAVE 3 F"), left < 3 ? REFUSED : DONE);
            Trial.due("byte 5", x.disk(3, 5), left);
            Trial.due("its name", Trial.block(x, 3, 0, 5), Trial.bytes(0) + "F   ");
            for (int i = 0; i < 3; i++) {
                Trial.due("block of record " + i, x.disk(3, 6 + i), i < left ? 32 - left + i : 0);
                Trial.due("what is written", x.disk(31, 0), left == 0 ? 0 : 59 + left);
            }
        }
        DeskMachine none = withBlocks(0);
        Trial.due("SAVE 0 needs no block", Trial.type(none, "SAVE 0 F"), DONE);
    }

    private static void saveKeepsOwnBlocks() {
        Trial.sentence("A block is USED when an entry that is not free has it among the first records that byte 5 says.");
        DeskMachine x = withBlocks(0);
        Trial.due("the blocks of a freed one can be had", Trial.type(x, "SAVE 4 E2"), DONE);
        Trial.due("its entry", Trial.block(x, 2, 5, 6), Trial.bytes(4, 28, 29, 30, 31, 0));
        DeskMachine y = withBlocks(0);
        y.burn(2, 5, 2);
        Trial.due("those behind byte 5, too", Trial.type(y, "SAVE 2 F"), DONE);
        Trial.due("its entry", Trial.block(y, 3, 5, 3), Trial.bytes(2, 30, 31));
        DeskMachine z = withBlocks(4);
        z.burn(2, 5, 255);
        Trial.due("at most 10 count", Trial.type(z, "SAVE 4 F"), DONE);
        Trial.due("its entry", Trial.block(z, 3, 5, 5), Trial.bytes(4, 28, 29, 30, 31));
        DeskMachine odd = new DeskMachine();
        Trial.entry(odd, 0, "E   ", 8);
        odd.burn(0, 0, 1);
        Trial.due("one with byte 0 1", Trial.type(odd, "SAVE 1 F"), DONE);
        Trial.due("is not free", odd.disk(1, 6), 9);
    }

    private static void loadRecords() {
        Trial.sentence("its record i (of those that byte 5 says, at most 10) to address 256 + 16 * i");
        for (int count : new int[] {0, 1, 9, 10, 11, 255}) {
            DeskMachine x = new DeskMachine();
            Trial.entry(x, 0, "F   ", 17, 16, 15, 14, 13, 12, 11, 10, 9, 8);
            x.burn(0, 5, count);
            x.burn(1, 0, 20);
            for (int b = 8; b < 18; b++) {
                x.burn(b, 0, b);
                x.burn(b, 15, 100 + b);
            }
            x.burn(20, 0, 66);
            Trial.due("a run", Trial.type(x, "F"), "\r");
            for (int i = 0; i < 11; i++) {
                boolean loaded = i < Math.min(count, 10);
                Trial.due("record " + i + " of " + count, x.peek(256 + 16 * i), loaded ? 17 - i : 0);
                Trial.due("its last byte", x.peek(271 + 16 * i), loaded ? 117 - i : 0);
            }
        }
    }

    private static void loadBlocks() {
        Trial.sentence("if its block is 8 .. 31");
        for (int block : new int[] {0, 7, 8, 31, 32, 40, 255}) {
            DeskMachine x = new DeskMachine();
            Trial.entry(x, 0, "F   ", block, 20);
            text(x, 8, 65);
            text(x, 31, 97);
            text(x, 20, 40);
            Trial.pokes(x, 256, "0123456789012345");
            Trial.type(x, "F");
            String first = block == 8 ? textOf(65) : block == 31 ? textOf(97) : "0123456789012345";
            Trial.due("record 0 of block " + block, Trial.memory(x, 256, 16), first);
            Trial.due("record 1 is at its place", Trial.memory(x, 272, 16), textOf(40));
        }
    }

    private static void loadProcessor() {
        Trial.sentence("SP is 496 and 0 is pushed, all else in the processor 0, PC 256, BUFFER 128; the machine RUNS.");
        // LXI B, LXI D, LXI H, LXI SP, XRA A with Z and P, call 26, MVI A, and the halt
        DeskMachine x = Trial.begun(1, 26, 9, 17, 8, 7, 33, 6, 5, 49, 100, 0, 175, 205, 5, 0, 62, 4, 118);
        x.run(1000);
        Trial.due("A before", x.register(7), 4);
        Trial.due("BUFFER before", x.register(10), 7 * 256 + 8);
        Trial.due("flags before", x.register(6), 70);
        Trial.due("SP before", x.register(8), 100);
        Trial.pokes(x, 493, 1, 2, 3, 4);
        Trial.type(x, "GO");
        int[] want = {0, 0, 0, 0, 0, 0, 2, 0, 494, 256, 128};
        for (int r = 0; r <= 10; r++) {
            Trial.due("register " + r, x.register(r), want[r]);
        }
        Trial.due("0 is pushed, and no more", Trial.memory(x, 493, 4), Trial.bytes(1, 0, 0, 4));
        Trial.due("it runs", x.about(0), 1);
    }

    private static void loadJustThisName() {
        Trial.sentence("Another first word: the file of just this name is LOADED");
        Supplier<DeskMachine> making = () -> {
            DeskMachine x = new DeskMachine();
            Trial.entry(x, 3, "FILE", 8);
            return x;
        };
        for (String line : new String[] {"FIL", "FIL?", "????", "file", "FILF", "ILE", "F"}) {
            refused(making, line);
        }
        DeskMachine x = new DeskMachine();
        Trial.entry(x, 3, "FILE", 8);
        Trial.entry(x, 4, "FILE", 9);
        x.burn(8, 0, 33);
        x.burn(9, 0, 44);
        Trial.due("the first of two", Trial.type(x, "FILES"), "\r");
        Trial.due("is loaded", x.peek(256), 33);
    }

    private static void justTheseWords() {
        Trial.sentence("Commands are just these words");
        for (String word : new String[] {"LIST", "SHOW", "DROP", "CALL", "SAVE"}) {
            DeskMachine x = new DeskMachine();
            Trial.entry(x, 0, word);
            Trial.type(x, word);
            Trial.due(word + " runs no file", x.about(0), 0);
            Trial.due(word + "S is another word", Trial.type(x, word + "S"), "\r");
            String less = word.substring(0, 3);
            String small = word.toLowerCase();
            String[] others = {less, small, "X" + less, "X" + word.substring(1), less + "X", word.substring(1), word + "1"};
            for (String other : others) {
                DeskMachine y = new DeskMachine();
                Trial.entry(y, 0, "1   ");
                Trial.due(other + " is no command", Trial.type(y, other + " 1 1"), REFUSED);
                Trial.entry(y, 1, (other + "   ").substring(0, 4));
                Trial.due(other + " is a file", Trial.type(y, other + " 1 1"), "\r");
            }
        }
    }

    private static void furtherWords() {
        Trial.sentence("further words do not matter");
        DeskMachine x = new DeskMachine();
        Trial.due("SAVE", Trial.type(x, "SAVE 1 A B C D E"), DONE);
        Trial.due("LIST", Trial.type(x, "LIST X Y Z"), "A    " + DONE);
        Trial.due("SHOW", Trial.type(x, "SHOW A Y Z"), zeros(16) + DONE);
        Trial.due("CALL", Trial.type(x, "CALL A B A Z"), DONE);
        Trial.due("DROP", Trial.type(x, "DROP A B"), DONE);
        Trial.due("the second word of DROP", x.disk(0, 0), 0);
        Trial.due("a file", Trial.type(x, "B A LIST ?"), "\r");
    }

    private static void missingWords() {
        Trial.sentence("A word is missing, no such digit (a word of one digit), no such file (but for DROP)");
        Supplier<DeskMachine> making = () -> {
            DeskMachine x = new DeskMachine();
            Trial.entry(x, 0, "F   ", 8);
            Trial.entry(x, 1, "    ", 9);
            Trial.entry(x, 2, "SAVE", 10);
            Trial.entry(x, 3, "1   ", 11);
            return x;
        };
        String[] lines = {"SHOW", "DROP", "CALL", "CALL F", "SAVE", "SAVE 1", "SAVE F", "SHOW    ", "CALL F    "};
        for (String line : lines) {
            refused(making, line);
        }
        // The words of an earlier line are gone.
        DeskMachine x = making.get();
        Trial.type(x, "CALL F G");
        Trial.due("CALL G behind CALL F G", Trial.type(x, "CALL G"), REFUSED);
        Trial.due("DROP behind it", Trial.type(x, "DROP"), REFUSED);
        Trial.due("G is there still", Trial.block(x, 0, 0, 5), Trial.bytes(0) + "G   ");
    }

    private static void freeNeverMatches() {
        Trial.sentence("(an entry that is free never matches, nor with commands)");
        Supplier<DeskMachine> making = () -> {
            DeskMachine x = new DeskMachine();
            Trial.entry(x, 0, "F   ", 8);
            x.burn(0, 0, 229);
            return x;
        };
        refused(making, "SHOW F");
        refused(making, "CALL F G");
        refused(making, "F");
        DeskMachine x = making.get();
        Trial.due("DROP", Trial.type(x, "DROP F"), DONE);
        Trial.entry(x, 1, "F   ", 9);
        Trial.due("CALL", Trial.type(x, "CALL F G"), DONE);
        Trial.due("the free one stays", Trial.block(x, 0, 1, 4), "F   ");
        Trial.due("the other has it", Trial.block(x, 1, 1, 4), "G   ");
        Trial.due("LIST", Trial.type(x, "LIST"), "G    " + DONE);
    }

    private static void endOfLine() {
        Trial.sentence("Behind what a line shows (63 too) 13 is shown, and then 62, when that line did not begin a run");
        DeskMachine x = new DeskMachine();
        Trial.entry(x, 0, "F   ");
        Trial.due("LIST", Trial.type(x, "LIST"), "F    \r>");
        Trial.due("63", Trial.type(x, "NIX"), "?\r>");
        Trial.due("nothing", Trial.type(x, ""), "\r>");
        Trial.due("a run, 13 alone", Trial.type(x, "F"), "\r");
        Trial.due("in all", x.about(2), 13);
        // Keys as they come are not shown.
        DeskMachine y = new DeskMachine();
        Trial.keys(y, "LIST");
        y.run(4);
        Trial.due("nothing before the end", y.about(2), 0);
    }

    private static void endOfProgram() {
        Trial.sentence("(Nothing is shown when a program ends.)");
        int[][] programs = {{118}, {201}, {195, 0, 0}, {14, 0, 195, 5, 0}, {14, 3, 195, 5, 0}};
        for (int[] program : programs) {
            DeskMachine x = Trial.begun(program);
            x.run(1000);
            Trial.due("at the desk", x.about(0), 0);
            Trial.due("13 of the line alone", x.about(2), 1);
            Trial.due("the next line", Trial.type(x, "LIST"), "GO   " + DONE);
        }
    }
}
