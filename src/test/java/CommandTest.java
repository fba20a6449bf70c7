/** The section "Terms": the line at the desk and the commands. */
public final class CommandTest {
    private static final String DONE = "\r>";
    private static final String REFUSED = "?\r>";

    public static void main(String[] args) {
        lines();
        list();
        show();
        drop();
        call();
        save();
        saveRefuses();
        load();
        loadRecords();
        Trial.end();
    }

    private static void lines() {
        DeskMachine x = new DeskMachine();
        Trial.due("no word", Trial.type(x, ""), DONE);
        Trial.due("spaces", Trial.type(x, "    "), DONE);
        Trial.due("no such file", Trial.type(x, "NIX"), REFUSED);
        Trial.due("small letters are no command", Trial.type(x, "list"), REFUSED);
        Trial.due("a longer word is no command", Trial.type(x, "LISTS"), REFUSED);
        Trial.due("a shorter word is no command", Trial.type(x, "LIS"), REFUSED);
        Trial.due("another first letter is no command", Trial.type(x, "MIST"), REFUSED);
        Trial.due("another last letter is no command", Trial.type(x, "LISP"), REFUSED);
        Trial.due("spaces around", Trial.type(x, "   LIST   "), DONE);
        Trial.due("further words", Trial.type(x, "LIST A B C D"), DONE);
        Trial.due("keys that are lost", Trial.type(x, "\tLI\bS" + (char) 127 + "T\n"), DONE);
        // 20 characters count: the word that is cut is a name of its own.
        Trial.entry(x, 0, "NAME");
        Trial.due("a line of 20", Trial.type(x, "                LIST"), "NAME " + DONE);
        Trial.due("a line of 21", Trial.type(x, "                 LIST"), REFUSED);
        Trial.due("cut to 20", Trial.type(x, "                LISTEN"), "NAME " + DONE);
        Trial.due("cut before a word", Trial.type(x, "SHOW               NAME"), REFUSED);
        Trial.due("the next line is whole", Trial.type(x, "LIST"), "NAME " + DONE);
    }

    private static void list() {
        DeskMachine x = new DeskMachine();
        Trial.due("none", Trial.type(x, "LIST"), DONE);
        Trial.entry(x, 5, "FIVE");
        Trial.entry(x, 1, "A   ");
        x.burn(1, 0, 1);
        Trial.entry(x, 3, "GONE");
        x.burn(3, 0, 229);
        Trial.due("two", Trial.type(x, "LIST"), "A    FIVE " + DONE);
        Trial.burns(x, 1, 1, 0, 13, 255, 36);
        Trial.due("any bytes", Trial.type(x, "LIST"), Trial.bytes(0, 13, 255, 36) + " FIVE " + DONE);
    }

    private static void text(DeskMachine x, int block, String text) {
        for (int i = 0; i < 16; i++) {
            x.burn(block, i, text.charAt(i));
        }
    }

    private static void show() {
        DeskMachine x = new DeskMachine();
        Trial.entry(x, 2, "T   ", 9, 7, 8, 32);
        text(x, 9, "0123456789abcdef");
        text(x, 8, "ghij\u001aklmnopqrstu");
        Trial.due("up to 26", Trial.type(x, "SHOW T"), "0123456789abcdefghij" + DONE);
        x.burn(8, 4, 36);
        Trial.due("all", Trial.type(x, "SHOW T X"), "0123456789abcdefghij$klmnopqrstu" + DONE);
        x.burn(2, 5, 1);
        Trial.due("one record", Trial.type(x, "SHOW T"), "0123456789abcdef" + DONE);
        x.burn(2, 5, 2);
        Trial.due("two records", Trial.type(x, "SHOW T"), "0123456789abcdef" + DONE);
        x.burn(9, 0, 26);
        x.burn(2, 5, 3);
        Trial.due("26 ends all records", Trial.type(x, "SHOW T"), DONE);
        x.burn(2, 5, 0);
        Trial.due("no record", Trial.type(x, "SHOW T"), DONE);
        Trial.due("no such file", Trial.type(x, "SHOW X"), REFUSED);
        Trial.due("no 63", Trial.type(x, "SHOW ?"), REFUSED);
        Trial.due("no word", Trial.type(x, "SHOW"), REFUSED);
        x.burn(2, 0, 229);
        Trial.due("a free one", Trial.type(x, "SHOW T"), REFUSED);

        DeskMachine y = new DeskMachine();
        Trial.entry(y, 0, "LONG", 8, 8, 8, 8, 8, 8, 8, 8, 8, 8);
        y.burn(0, 5, 255);
        Trial.type(y, "SHOW LONGER");
        Trial.due("at most 10 records", y.about(2), 162);
    }

    private static void drop() {
        DeskMachine x = new DeskMachine();
        Trial.entry(x, 0, "AB  ", 8);
        Trial.entry(x, 1, "AC  ", 9);
        Trial.entry(x, 2, "ABC ", 10);
        Trial.due("no word", Trial.type(x, "DROP"), REFUSED);
        Trial.due("no such file is fine", Trial.type(x, "DROP X"), DONE);
        Trial.due("none went", Trial.type(x, "LIST"), "AB   AC   ABC  " + DONE);
        Trial.due("63", Trial.type(x, "DROP A?"), DONE);
        Trial.due("two went", Trial.type(x, "LIST"), "ABC  " + DONE);
        Trial.due("byte 0 alone", Trial.block(x, 0, 0, 7), Trial.bytes(229) + "AB  " + Trial.bytes(1, 8));
        Trial.due("four characters count", Trial.type(x, "DROP ????X"), DONE);
        Trial.due("all went", Trial.type(x, "LIST"), DONE);
    }

    private static void call() {
        DeskMachine x = new DeskMachine();
        Trial.entry(x, 1, "OLD ", 8);
        Trial.entry(x, 2, "OLD ", 9);
        Trial.due("rename", Trial.type(x, "CALL OLD NEWNAME"), DONE);
        Trial.due("the first one", Trial.block(x, 1, 0, 7), Trial.bytes(0) + "NEWN" + Trial.bytes(1, 8));
        Trial.due("not the second", Trial.block(x, 2, 1, 4), "OLD ");
        Trial.due("filled up", Trial.type(x, "CALL NEWN Z more"), DONE);
        Trial.due("with spaces", Trial.block(x, 1, 1, 4), "Z   ");
        Trial.due("no such file", Trial.type(x, "CALL Y X"), REFUSED);
        Trial.due("no 63", Trial.type(x, "CALL ? X"), REFUSED);
        Trial.due("one word", Trial.type(x, "CALL Z"), REFUSED);
        Trial.due("none", Trial.type(x, "CALL"), REFUSED);
        Trial.due("nothing changed", Trial.type(x, "LIST"), "Z    OLD  " + DONE);
    }

    private static void save() {
        DeskMachine x = new DeskMachine();
        for (int i = 0; i < 10; i++) {
            x.poke(256 + 16 * i, 30 + i);
            x.poke(271 + 16 * i, 60 + i);
        }
        Trial.burns(x, 0, 5, 9, 9, 9, 9);
        Trial.due("none", Trial.type(x, "SAVE 0 Z"), DONE);
        Trial.due("a file without records", Trial.block(x, 0, 0, 16), Trial.bytes(0) + "Z   " + Trial.bytes(new int[11]));
        Trial.due("nine", Trial.type(x, "SAVE 9 NINER x"), DONE);
        Trial.due("its entry", Trial.block(x, 1, 0, 16),
                Trial.bytes(0) + "NINE" + Trial.bytes(9, 8, 9, 10, 11, 12, 13, 14, 15, 16, 0));
        for (int i = 0; i < 9; i++) {
            Trial.due("record " + i, Trial.block(x, 8 + i, 0, 16),
                    Trial.bytes(30 + i) + Trial.bytes(new int[14]) + Trial.bytes(60 + i));
        }
        Trial.due("not more", x.disk(17, 0), 0);
        Trial.due("again, fewer", Trial.type(x, "SAVE 2 NINE"), DONE);
        Trial.due("in its own blocks, freed first", Trial.block(x, 1, 0, 10),
                Trial.bytes(0) + "NINE" + Trial.bytes(2, 8, 9, 0, 0));
        x.burn(0, 0, 229);
        Trial.due("again", Trial.type(x, "SAVE 1 NINE"), DONE);
        Trial.due("into the first free entry", Trial.block(x, 0, 0, 7), Trial.bytes(0) + "NINE" + Trial.bytes(1, 8));
        Trial.due("the old one is freed", x.disk(1, 0), 229);
        Trial.entry(x, 2, "NINE", 20);
        Trial.due("with two of the name", Trial.type(x, "SAVE 1 NINE"), DONE);
        Trial.due("the first is freed and made", x.disk(0, 0), 0);
        Trial.due("the second stays", x.disk(2, 0), 0);
        Trial.due("a name with 63 is just this name", Trial.type(x, "SAVE 1 N?NE"), DONE);
        Trial.due("its own entry", Trial.block(x, 1, 1, 4), "N?NE");
        Trial.due("the least block that is not used", x.disk(1, 6), 9);
    }

    private static void saveRefuses() {
        DeskMachine x = new DeskMachine();
        Trial.entry(x, 0, "OLD ", 8);
        String[] wrong = {"SAVE", "SAVE 1", "SAVE OLD", "SAVE 10 OLD", "SAVE X OLD", "SAVE 1X OLD", "SAVE / OLD",
            "SAVE : OLD", "SAVE OLD 1", "SAVE -1 OLD"};
        for (String line : wrong) {
            Trial.due(line, Trial.type(x, line), REFUSED);
            Trial.due(line + " leaves it", x.disk(0, 0), 0);
            Trial.due(line + " makes none", x.disk(1, 0), 229);
        }
        for (int e = 1; e < 8; e++) {
            Trial.entry(x, e, "F" + e + "  ");
        }
        Trial.due("no free entry", Trial.type(x, "SAVE 1 NEW"), REFUSED);
        Trial.due("but one of its name", Trial.type(x, "SAVE 1 F3"), DONE);
        Trial.due("its block", x.disk(3, 6), 9);

        DeskMachine y = new DeskMachine();
        Trial.entry(y, 0, "A   ", 8, 9, 10, 11, 12, 13, 14, 15, 16, 17);
        Trial.entry(y, 1, "B   ", 18, 19, 20, 21, 22, 23, 24, 25, 26, 27);
        Trial.entry(y, 2, "C   ", 28, 30);
        y.poke(256, 5);
        y.poke(272, 6);
        Trial.due("no block for the third", Trial.type(y, "SAVE 3 D"), REFUSED);
        Trial.due("what was written stays", Trial.block(y, 3, 0, 9), Trial.bytes(0) + "D   " + Trial.bytes(2, 29, 31, 0));
        Trial.due("record 0", y.disk(29, 0), 5);
        Trial.due("record 1", y.disk(31, 0), 6);
    }

    private static void load() {
        DeskMachine x = new DeskMachine();
        // MVI A 255, INR A, LXI H, LXI D, LXI B with C 26, XCHG, CALL 5, STC, HALT
        Trial.pokes(x, 256, 62, 255, 60, 33, 9, 8, 17, 7, 6, 1, 26, 5, 235, 205, 5, 0, 55, 118);
        Trial.due("save", Trial.type(x, "SAVE 2 PROG"), DONE);
        Trial.due("a run shows 13 alone", Trial.type(x, "PROGRAM x y z"), "\r");
        Trial.due("it runs", x.about(0), 1);
        Trial.due("PC", x.register(9), 256);
        Trial.due("SP", x.register(8), 494);
        x.run(100);
        int[] left = {5, 26, 8, 9, 6, 7};
        for (int r = 0; r < 6; r++) {
            Trial.due("the processor stays: " + r, x.register(r), left[r]);
        }
        Trial.due("flags", x.register(6), 64 + 16 + 4 + 2 + 1);
        Trial.due("BUFFER", x.register(10), 8 * 256 + 9);
        Trial.due("PC behind the halt", x.register(9), 274);
        Trial.pokes(x, 256, new int[32]);
        Trial.pokes(x, 494, 7, 7);
        Trial.type(x, "PROG");
        int[] want = {0, 0, 0, 0, 0, 0, 2, 0, 494, 256, 128};
        for (int r = 0; r <= 10; r++) {
            Trial.due("register " + r + " at a start", x.register(r), want[r]);
        }
        Trial.due("0 is pushed", x.peek(494) + x.peek(495), 0);
        Trial.due("loaded", x.peek(256), 62);
        Trial.due("loaded", x.peek(273), 118);

        DeskMachine y = new DeskMachine();
        Trial.entry(y, 0, "LIST");
        Trial.entry(y, 1, "????");
        Trial.due("a file like a command", Trial.type(y, "LIST"), "LIST ???? " + DONE);
        Trial.due("by a longer word", Trial.type(y, "LISTX"), "\r");
        Trial.due("it runs", y.about(0), 1);
        DeskMachine z = new DeskMachine();
        Trial.entry(z, 1, "PROG");
        Trial.due("no 63", Trial.type(z, "????"), REFUSED);
        Trial.due("just this name", Trial.type(z, "PRO"), REFUSED);
        Trial.due("case matters", Trial.type(z, "prog"), REFUSED);
        z.burn(1, 0, 229);
        Trial.due("a free one", Trial.type(z, "PROG"), REFUSED);
        z.burn(1, 0, 255);
        Trial.due("not a free one", Trial.type(z, "PROG"), "\r");
    }

    private static void loadRecords() {
        DeskMachine x = new DeskMachine();
        for (int i = 8; i < 18; i++) {
            x.burn(i, 0, i);
            x.burn(i, 15, 100 + i);
        }
        Trial.entry(x, 0, "R   ", 17, 7, 15, 32, 13, 12, 11, 10, 9, 8);
        x.burn(0, 5, 77);
        for (int a = 256; a < 512; a++) {
            x.poke(a, 55);
        }
        Trial.type(x, "R");
        int[] blocks = {17, 0, 15, 0, 13, 12, 11, 10, 9, 8};
        for (int i = 0; i < 10; i++) {
            Trial.due("record " + i, x.peek(256 + 16 * i), blocks[i] == 0 ? 55 : blocks[i]);
            Trial.due("its end", x.peek(271 + 16 * i), blocks[i] == 0 ? 55 : 100 + blocks[i]);
        }
        Trial.due("not an eleventh", x.peek(416), 55);
        DeskMachine y = new DeskMachine();
        y.burn(8, 0, 1);
        y.burn(9, 0, 2);
        Trial.entry(y, 0, "R   ", 8, 9);
        y.burn(0, 5, 1);
        Trial.type(y, "R");
        Trial.due("record 0", y.peek(256), 1);
        Trial.due("only what byte 5 says", y.peek(272), 0);
    }
}
