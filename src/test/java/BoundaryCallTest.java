import java.util.function.Supplier;

/** The boundary cases that the section "Terms" names for the disk and the system's calls, a test for each sentence. */
public final class BoundaryCallTest {
    private static final int FCB = 96;
    private static final int ACROSS = 506;

    public static void main(String[] args) {
        answers();
        leave();
        nextKey();
        showE();
        showText();
        isKey();
        bufferWord();
        bufferAtStart();
        freeEntries();
        namesThatMatch();
        namesOnDisk();
        open();
        openNone();
        openKeeps();
        close();
        closeNone();
        search();
        searchNone();
        searchOnAtFirst();
        searchOnBehindLast();
        searchOnNoneAnyMore();
        searchOnByFileBlock();
        searchOnOverPrograms();
        searchOnByNumber();
        erase();
        eraseNone();
        read();
        readRefuses();
        readBlocks();
        readOverItself();
        writeRefusesNext();
        writeGetsBlock();
        writeKeepsBlock();
        writeUsed();
        writeOwn();
        writeAtMostTen();
        writeNoBlock();
        writeAsTheyAre();
        writeByte5();
        make();
        makeNone();
        rename();
        renameNone();
        others();
        acrossTheEnd();
        Trial.end();
    }

    private static DeskMachine machine() {
        return Trial.begun(0);
    }

    private static String zeros(int count) {
        return Trial.bytes(new int[count]);
    }

    private static void fill(DeskMachine x, int block, int from) {
        for (int i = 0; i < 16; i++) {
            x.burn(block, i, (from + i) & 255);
        }
    }

    private static void answers() {
        Trial.sentence("What it answers is in A (0 where nothing is said).");
        for (int c : new int[] {2, 9, 26}) {
            DeskMachine x = Trial.begun(62, 77, 0);
            x.poke(300, 36);
            x.run(1);
            Trial.due("A behind call " + c, Trial.call(x, c, 300), 0);
        }
        DeskMachine x = Trial.begun(55, 62, 77, 6, 9, 38, 8, 46, 7, 0);
        x.run(5);
        Trial.call(x, 11, 0x1234);
        int[] want = {9, 11, 0x12, 0x34, 8, 7, 3, 0, 494};
        for (int r = 0; r < want.length; r++) {
            Trial.due("register " + r + " behind a call", x.register(r), want[r]);
        }
    }

    private static void leave() {
        Trial.sentence("0: the machine is at the desk; nothing else happens (PC is not popped, A stays; it is a step).");
        DeskMachine x = Trial.begun(62, 77, 14, 0, 205, 5, 0, 118);
        x.run(3);
        Trial.due("it runs before", x.about(0), 1);
        Trial.due("a step", x.run(1000), 1);
        Trial.due("steps in all", x.about(3), 7);
        Trial.due("at the desk", x.about(0), 0);
        Trial.due("A stays", x.register(7), 77);
        Trial.due("PC is not popped", x.register(9), 5);
        Trial.due("SP", x.register(8), 492);
        Trial.due("nothing is shown", x.about(2), 1);
        x.key(65);
        Trial.due("keys go to the desk", x.run(1000), 1);
        Trial.due("line", x.about(4), 1);
    }

    private static void nextKey() {
        Trial.sentence("1: the next key; without one the machine WAITS, and nothing was done (that is no step)");
        for (int k : new int[] {0, 13, 26, 36, 255}) {
            DeskMachine x = machine();
            x.key(k);
            x.key(1);
            Trial.due("key " + k, Trial.call(x, 1, 0), k);
            Trial.due("one is left", x.about(1), 1);
            Trial.due("nothing is shown", x.about(2), 1);
        }
        DeskMachine y = Trial.begun(62, 77, 14, 1, 205, 5, 0, 118);
        Trial.due("to the call", y.run(1000), 3);
        Trial.due("A", y.register(7), 77);
        Trial.due("PC", y.register(9), 5);
        Trial.due("SP", y.register(8), 492);
        Trial.due("steps in all", y.about(3), 6);
    }

    private static void showE() {
        Trial.sentence("2: E is shown.");
        for (int e : new int[] {0, 13, 36, 255}) {
            DeskMachine x = machine();
            Trial.call(x, 2, 0x4100 + e);
            Trial.due("shown", x.shown(0), e);
            Trial.due("one alone", x.about(2), 2);
        }
    }

    private static void showText() {
        Trial.sentence("9: the bytes from address DE on up to one that is 36 are shown (at most 64).");
        int[] ends = {0, 1, 62, 63, 64, 65};
        for (int end : ends) {
            for (int from : new int[] {20, 1044, 65492}) {
                DeskMachine x = machine();
                for (int i = 0; i < 70; i++) {
                    x.poke((from + i) & 511, 100 + i);
                }
                x.poke((from + end) & 511, 36);
                Trial.call(x, 9, from);
                int count = Math.min(end, 64);
                Trial.due("shown with a 36 behind " + end, x.about(2), 1 + count);
                Trial.due("the last one", x.shown(0), count == 0 ? 13 : 99 + count);
                Trial.due("the one before the first", x.shown(count), count == 64 ? DeskMachine.NONE : 13);
            }
        }
        DeskMachine y = machine();
        Trial.pokes(y, 0, "cd$");
        Trial.pokes(y, 510, "ab");
        Trial.call(y, 9, 510);
        Trial.due("across the end", Trial.shownSince(y, 1), "abcd");
    }

    private static void isKey() {
        Trial.sentence("11: 255 if there is a key, else 0.");
        DeskMachine x = machine();
        Trial.due("no key", Trial.call(x, 11, 0), 0);
        x.key(0);
        Trial.due("one key", Trial.call(x, 11, 0), 255);
        Trial.due("again", Trial.call(x, 11, 0), 255);
        Trial.due("it is not taken", x.about(1), 1);
        for (int i = 2; i <= 40; i++) {
            x.key(i);
        }
        Trial.due("40 keys", Trial.call(x, 11, 0), 255);
    }

    private static void bufferWord() {
        Trial.sentence("26: BUFFER is DE (128 at first, and at each start of a program).");
        Trial.due("at first", new DeskMachine().register(10), 128);
        DeskMachine x = machine();
        for (int de : new int[] {0, 511, 512, 65535}) {
            Trial.call(x, 26, de);
            Trial.due("BUFFER", x.register(10), de);
        }
    }

    private static void bufferAtStart() {
        Trial.sentence("26: BUFFER is DE (128 at first, and at each start of a program).");
        DeskMachine x = Trial.begun(14, 26, 17, 7, 3, 205, 5, 0, 201);
        x.run(1000);
        Trial.due("it stays at the desk", x.register(10), 775);
        Trial.type(x, "NIX");
        Trial.due("a line that begins no run", x.register(10), 775);
        Trial.type(x, "GO");
        Trial.due("at the start", x.register(10), 128);
    }

    private static void freeEntries() {
        Trial.sentence("byte 0: 229 if free (at first, with 0 for the other bytes), else 0 (any other byte is not free, too)");
        for (int first : new int[] {0, 1, 228, 229, 230, 255}) {
            DeskMachine x = machine();
            Trial.entry(x, 2, "FILE", 9);
            x.burn(2, 0, first);
            Trial.fileBlock(x, FCB, "FILE");
            int want = first == 229 ? 255 : 2;
            Trial.due("open with byte 0 " + first, Trial.call(x, 15, FCB), want);
            Trial.due("search with byte 0 " + first, Trial.call(x, 17, FCB), want);
            Trial.due("close with byte 0 " + first, Trial.call(x, 16, FCB), want);
            Trial.due("byte 0 stays", x.disk(2, 0), first);
            Trial.due("erase with byte 0 " + first, Trial.call(x, 19, FCB), first == 229 ? 255 : 0);
        }
        for (int first : new int[] {0, 1, 228, 229, 230, 255}) {
            DeskMachine x = machine();
            for (int e = 0; e < 7; e++) {
                x.burn(e, 0, first);
            }
            Trial.fileBlock(x, FCB, "FILE");
            Trial.due("make with byte 0 " + first, Trial.call(x, 22, FCB), first == 229 ? 0 : 255);
        }
    }

    private static void namesThatMatch() {
        Trial.sentence("Names MATCH when each character is the same, or the wanted one is 63 (only where it is said).");
        String[] wanted = {"WXYZ", "VXYZ", "WVYZ", "WXVZ", "WXYV", "?XYZ", "W?YZ", "WX?Z", "WXY?", "????", "???V"};
        boolean[] matches = {true, false, false, false, false, true, true, true, true, true, false};
        for (int i = 0; i < wanted.length; i++) {
            boolean just = i == 0;
            matching(15, wanted[i], matches[i] ? 3 : 255);
            matching(17, wanted[i], matches[i] ? 3 : 255);
            matching(18, wanted[i], matches[i] ? 3 : 255);
            matching(19, wanted[i], matches[i] ? 0 : 255);
            matching(16, wanted[i], just ? 3 : 255);
            matching(23, wanted[i], just ? 0 : 255);
        }
    }

    private static void matching(int c, String wanted, int want) {
        DeskMachine x = machine();
        Trial.entry(x, 3, "WXYZ");
        // "GO" has spaces where no wish but a 63 could fit it.
        x.burn(7, 0, 229);
        Trial.fileBlock(x, FCB, wanted);
        Trial.due("call " + c + " of " + wanted, Trial.call(x, c, FCB), want);
    }

    private static void namesOnDisk() {
        Trial.sentence("or the wanted one is 63 (only where it is said)");
        for (int c : new int[] {15, 16, 17, 18, 19, 23}) {
            DeskMachine x = machine();
            Trial.entry(x, 3, "????");
            Trial.fileBlock(x, FCB, "WXYZ");
            Trial.due("call " + c + ": a 63 on the disk is no wish", Trial.call(x, c, FCB), 255);
        }
        DeskMachine just = machine();
        Trial.entry(just, 3, "????");
        Trial.fileBlock(just, FCB, "????");
        Trial.due("call 16: a 63 that is the name", Trial.call(just, 16, FCB), 3);
        Trial.due("call 23: a 63 that is the name", Trial.call(just, 23, FCB), 0);
        for (int value : new int[] {0, 255, 62, 64}) {
            DeskMachine x = machine();
            Trial.entry(x, 3, Trial.bytes(value, value, value, value));
            Trial.fileBlock(x, FCB, Trial.bytes(value, value, value, value));
            Trial.due("a name of any bytes " + value, Trial.call(x, 15, FCB), 3);
            Trial.fileBlock(x, FCB, "ABCD");
            Trial.due("and no wish " + value, Trial.call(x, 15, FCB), 255);
        }
    }

    private static void open() {
        Trial.sentence("15 OPEN: the first entry whose name matches (63 too): bytes 1 .. 15 come into the file block");
        for (int e : new int[] {0, 7}) {
            DeskMachine x = machine();
            x.burn(7, 0, 229);
            Trial.entry(x, e, "FILE", 9, 10);
            x.burn(e, 15, 99);
            Trial.fileBlock(x, FCB, "FILE");
            Trial.due("entry " + e, Trial.call(x, 15, FCB), e);
            Trial.due("bytes 1 .. 15", Trial.memory(x, FCB + 1, 15), Trial.block(x, e, 1, 15));
        }
        DeskMachine y = machine();
        Trial.entry(y, 2, "FIL2", 9);
        Trial.entry(y, 1, "FIL1", 10);
        Trial.fileBlock(y, FCB, "FIL?");
        Trial.due("the first", Trial.call(y, 15, FCB), 1);
        Trial.due("its name too", Trial.memory(y, FCB + 1, 4), "FIL1");
        Trial.due("its block", y.peek(FCB + 6), 10);
    }

    private static void openNone() {
        Trial.sentence("its number; 255 if there is none.");
        Supplier<DeskMachine> making = () -> {
            DeskMachine x = machine();
            Trial.entry(x, 3, "FILE", 9, 10);
            Trial.fileBlock(x, FCB, "FIL ");
            Trial.pokes(x, FCB + 5, 9, 8, 7);
            return x;
        };
        Trial.callChangesNothing("open of none", making, 15, FCB, 255);
        DeskMachine empty = machine();
        empty.burn(7, 0, 229);
        Trial.fileBlock(empty, FCB, "????");
        Trial.due("of an empty directory", Trial.call(empty, 15, FCB), 255);
    }

    private static void openKeeps() {
        Trial.sentence("(bytes 0 and 16 stay, with 22 too)");
        DeskMachine x = machine();
        Trial.entry(x, 3, "FILE", 9);
        Trial.fileBlock(x, FCB, "FILE");
        x.poke(FCB, 55);
        x.poke(FCB + 16, 66);
        x.poke(FCB + 17, 77);
        Trial.call(x, 15, FCB);
        Trial.due("15: byte 0", x.peek(FCB), 55);
        Trial.due("15: byte 16", x.peek(FCB + 16), 66);
        Trial.due("15: byte 17", x.peek(FCB + 17), 77);
        Trial.call(x, 22, FCB);
        Trial.due("22: byte 0", x.peek(FCB), 55);
        Trial.due("22: byte 16", x.peek(FCB + 16), 66);
        Trial.due("22: byte 17", x.peek(FCB + 17), 77);
    }

    private static void close() {
        Trial.sentence("16 CLOSE: the first entry with just this name gets bytes 5 .. 15 of the file block: its number, or 255.");
        DeskMachine x = machine();
        Trial.entry(x, 0, "FIL?", 8);
        Trial.entry(x, 4, "FILE", 9);
        Trial.entry(x, 5, "FILE", 10);
        x.burn(4, 0, 3);
        Trial.fileBlock(x, FCB, "FILE");
        x.poke(FCB, 55);
        Trial.pokes(x, FCB + 5, 255, 254, 253, 252, 251, 250, 249, 248, 247, 246, 245, 244);
        Trial.due("close", Trial.call(x, 16, FCB), 4);
        Trial.due("byte 0 and the name stay", Trial.block(x, 4, 0, 5), Trial.bytes(3) + "FILE");
        Trial.due("bytes 5 .. 15", Trial.block(x, 4, 5, 11),
                Trial.bytes(255, 254, 253, 252, 251, 250, 249, 248, 247, 246, 245));
        Trial.due("the next entry stays", Trial.block(x, 5, 0, 7), Trial.bytes(0) + "FILE" + Trial.bytes(1, 10));
        Trial.due("the one before stays", Trial.block(x, 0, 0, 7), Trial.bytes(0) + "FIL?" + Trial.bytes(1, 8));
    }

    private static void closeNone() {
        Trial.sentence("16 CLOSE: the first entry with just this name gets bytes 5 .. 15 of the file block: its number, or 255.");
        Supplier<DeskMachine> making = () -> {
            DeskMachine x = machine();
            Trial.entry(x, 3, "FILE", 9, 10);
            Trial.fileBlock(x, FCB, "FIL?");
            Trial.pokes(x, FCB + 5, 9, 8, 7);
            return x;
        };
        Trial.callChangesNothing("close of none, 63 does not match", making, 16, FCB, 255);
    }

    private static void search() {
        Trial.sentence("17 SEARCH: the first entry that matches (63 too): its 16 bytes go to BUFFER: its number, or 255.");
        for (int e : new int[] {0, 6}) {
            for (int buffer : new int[] {128, 600, 500, 65530}) {
                DeskMachine x = machine();
                Trial.entry(x, e, "FILE", 9, 10, 11);
                x.burn(e, 0, 4);
                x.burn(e, 15, 99);
                Trial.fileBlock(x, FCB, "F?LE");
                Trial.call(x, 26, buffer);
                // One that is searched across the stack is looked at where the stack is not.
                Trial.due("entry " + e, Trial.call(x, 17, FCB), e);
                Trial.due("its first byte", x.peek(buffer & 511), 4);
                Trial.due("its last byte", x.peek((buffer + 15) & 511), 99);
                Trial.due("its name", Trial.memory(x, buffer + 1, 4), "FILE");
            }
        }
        DeskMachine y = machine();
        y.poke(127, 5);
        y.poke(144, 6);
        Trial.fileBlock(y, FCB, "GO  ");
        Trial.due("the last entry", Trial.call(y, 17, FCB), 7);
        Trial.due("not before BUFFER", y.peek(127), 5);
        Trial.due("not behind it", y.peek(144), 6);
    }

    private static void searchNone() {
        Trial.sentence("17 SEARCH: the first entry that matches (63 too): its 16 bytes go to BUFFER: its number, or 255.");
        Supplier<DeskMachine> making = () -> {
            DeskMachine x = machine();
            Trial.fileBlock(x, FCB, "NIX ");
            Trial.pokes(x, 128, 9, 8, 7);
            return x;
        };
        Trial.callChangesNothing("search of none", making, 17, FCB, 255);
        Trial.callChangesNothing("18 of none", making, 18, FCB, 255);
    }

    private static DeskMachine threeFiles() {
        DeskMachine x = machine();
        Trial.entry(x, 0, "AA  ");
        Trial.entry(x, 3, "AB  ");
        Trial.fileBlock(x, FCB, "????");
        return x;
    }

    private static void searchOnAtFirst() {
        Trial.sentence("behind none, before the first 17, from entry 0 on");
        DeskMachine x = threeFiles();
        Trial.due("the first 18", Trial.call(x, 18, FCB), 0);
        Trial.due("its entry is in BUFFER", Trial.memory(x, 128, 3), Trial.bytes(0) + "AA");
        Trial.due("the second 18", Trial.call(x, 18, FCB), 3);
        Trial.due("the third 18", Trial.call(x, 18, FCB), 7);
        Trial.due("the fourth 18", Trial.call(x, 18, FCB), 255);
        DeskMachine y = threeFiles();
        Trial.pokes(y, FCB + 1, "NIX ");
        Trial.due("a first 18 of none", Trial.call(y, 18, FCB), 255);
        Trial.pokes(y, FCB + 1, "????");
        Trial.due("none any more", Trial.call(y, 18, FCB), 255);
    }

    private static void searchOnBehindLast() {
        Trial.sentence("18: likewise the next one behind that found last by 17 or 18");
        DeskMachine x = threeFiles();
        Trial.due("17", Trial.call(x, 17, FCB), 0);
        Trial.due("18 behind a 17", Trial.call(x, 18, FCB), 3);
        Trial.due("18 behind an 18", Trial.call(x, 18, FCB), 7);
        Trial.due("17 begins anew", Trial.call(x, 17, FCB), 0);
        Trial.due("18 behind it", Trial.call(x, 18, FCB), 3);
        // Other calls that look for files do not count.
        Trial.pokes(x, FCB + 1, "GO  ");
        Trial.due("an open", Trial.call(x, 15, FCB), 7);
        Trial.pokes(x, FCB + 1, "????");
        Trial.due("18 behind the open", Trial.call(x, 18, FCB), 7);
        Trial.due("behind entry 7", Trial.call(x, 18, FCB), 255);
    }

    private static void searchOnNoneAnyMore() {
        Trial.sentence("when none was found, there is none any more for 18");
        DeskMachine x = threeFiles();
        Trial.pokes(x, FCB + 1, "NIX ");
        Trial.due("17 of none", Trial.call(x, 17, FCB), 255);
        Trial.pokes(x, FCB + 1, "????");
        Trial.due("18 behind it", Trial.call(x, 18, FCB), 255);
        Trial.due("and again", Trial.call(x, 18, FCB), 255);
        Trial.due("17", Trial.call(x, 17, FCB), 0);
        Trial.pokes(x, FCB + 1, "NIX ");
        Trial.due("18 of none", Trial.call(x, 18, FCB), 255);
        Trial.pokes(x, FCB + 1, "????");
        Trial.due("18 behind it", Trial.call(x, 18, FCB), 255);
        Trial.due("17 is not held by that", Trial.call(x, 17, FCB), 0);
        Trial.due("nor 18 then", Trial.call(x, 18, FCB), 3);
    }

    private static void searchOnByFileBlock() {
        Trial.sentence("(by the file block as it is now");
        DeskMachine x = threeFiles();
        Trial.pokes(x, FCB + 1, "A?  ");
        Trial.due("17", Trial.call(x, 17, FCB), 0);
        Trial.pokes(x, FCB + 1, "G?  ");
        Trial.due("18 of another name", Trial.call(x, 18, FCB), 7);
        DeskMachine y = threeFiles();
        Trial.due("17", Trial.call(y, 17, FCB), 0);
        Trial.fileBlock(y, 200, "AB  ");
        Trial.due("18 of another file block", Trial.call(y, 18, 200), 3);
    }

    private static void searchOnOverPrograms() {
        Trial.sentence("it stands so over programs");
        DeskMachine x = threeFiles();
        Trial.due("17", Trial.call(x, 17, FCB), 0);
        again(x);
        Trial.due("18 in another program", Trial.call(x, 18, FCB), 3);
        Trial.pokes(x, FCB + 1, "NIX ");
        Trial.due("18 of none", Trial.call(x, 18, FCB), 255);
        again(x);
        Trial.pokes(x, FCB + 1, "????");
        Trial.due("none any more in another program", Trial.call(x, 18, FCB), 255);
        DeskMachine y = threeFiles();
        again(y);
        Trial.due("before the first 17 in another program", Trial.call(y, 18, FCB), 0);
    }

    private static void again(DeskMachine x) {
        x.poke(x.register(9) & 511, 118);
        x.run(1);
        Trial.due("at the desk", x.about(0), 0);
        Trial.type(x, "LIST");
        Trial.type(x, "DROP X");
        Trial.begin(x, 0);
    }

    private static void searchOnByNumber() {
        Trial.sentence("and whatever becomes of entries: the number counts");
        DeskMachine x = threeFiles();
        Trial.call(x, 17, FCB);
        Trial.due("18", Trial.call(x, 18, FCB), 3);
        x.burn(3, 0, 229);
        Trial.entry(x, 2, "NEW ");
        Trial.due("one before it does not count", Trial.call(x, 18, FCB), 7);
        DeskMachine y = threeFiles();
        Trial.call(y, 17, FCB);
        y.burn(0, 0, 229);
        Trial.entry(y, 1, "NEW ");
        Trial.due("one behind it counts", Trial.call(y, 18, FCB), 1);
        DeskMachine z = threeFiles();
        z.burn(7, 0, 229);
        Trial.call(z, 17, FCB);
        Trial.call(z, 18, FCB);
        Trial.due("none", Trial.call(z, 18, FCB), 255);
        Trial.entry(z, 7, "NEW ");
        Trial.due("one that comes later does not count", Trial.call(z, 18, FCB), 255);
    }

    private static void erase() {
        Trial.sentence("19 ERASE: all that match (63 too) are free (byte 0 alone changes): 0, or 255 if there is none.");
        DeskMachine x = machine();
        for (int e = 0; e < 7; e++) {
            Trial.entry(x, e, e == 4 ? "OTHR" : "SAME", 10 + e);
        }
        x.burn(5, 0, 77);
        Trial.fileBlock(x, FCB, "SAME");
        Trial.due("all of one name", Trial.call(x, 19, FCB), 0);
        for (int e = 0; e < 7; e++) {
            Trial.due("entry " + e, Trial.block(x, e, 0, 16), Trial.bytes(e == 4 ? 0 : 229)
                    + (e == 4 ? "OTHR" : "SAME") + Trial.bytes(1, 10 + e) + zeros(9));
        }
        Trial.fileBlock(x, FCB, "????");
        Trial.due("all", Trial.call(x, 19, FCB), 0);
        Trial.due("the first", x.disk(4, 0), 229);
        Trial.due("the last", x.disk(7, 0), 229);
        Trial.due("none is left", Trial.call(x, 19, FCB), 255);
    }

    private static void eraseNone() {
        Trial.sentence("19 ERASE: all that match (63 too) are free (byte 0 alone changes): 0, or 255 if there is none.");
        Supplier<DeskMachine> making = () -> {
            DeskMachine x = machine();
            Trial.entry(x, 3, "FILE", 9);
            Trial.fileBlock(x, FCB, "?IL ");
            return x;
        };
        Trial.callChangesNothing("erase of none", making, 19, FCB, 255);
    }

    /** A file block of these records, the file being of no entry. */
    private static DeskMachine reading(int byte5, int next, int... blocks) {
        DeskMachine x = machine();
        Trial.fileBlock(x, FCB, "ANY ");
        Trial.pokes(x, FCB + 6, blocks);
        x.poke(FCB + 5, byte5);
        x.poke(FCB + 16, next);
        for (int i = 0; i < 17; i++) {
            x.poke(127 + i, 200 + i);
        }
        return x;
    }

    private static void read() {
        Trial.sentence("20 READ: record NEXT goes to BUFFER, then NEXT becomes 1 more than it was before: 0");
        for (int next : new int[] {0, 1, 9}) {
            DeskMachine x = reading(next + 1, next, 8, 8, 8, 8, 8, 8, 8, 8, 8, 8);
            fill(x, 31, 30);
            x.poke(FCB + 6 + next, 31);
            x.poke(144, 66);
            Trial.due("record " + next, Trial.call(x, 20, FCB), 0);
            Trial.due("NEXT", x.peek(FCB + 16), next + 1);
            Trial.due("BUFFER", Trial.memory(x, 128, 16), Trial.block(x, 31, 0, 16));
            Trial.due("not before it", x.peek(127), 200);
            Trial.due("not behind it", x.peek(144), 66);
            Trial.due("byte 5 stays", x.peek(FCB + 5), next + 1);
        }
    }

    private static void readRefuses() {
        Trial.sentence("1 if NEXT is 10 or more, or not below byte 5, or its block is not 8 .. 31.");
        int[] ten = {8, 9, 10, 11, 12, 13, 14, 15, 16, 17};
        Trial.callChangesNothing("NEXT 10 of 255", () -> reading(255, 10, ten), 20, FCB, 1);
        Trial.callChangesNothing("NEXT 11 of 255", () -> reading(255, 11, ten), 20, FCB, 1);
        Trial.callChangesNothing("NEXT 255 of 255", () -> reading(255, 255, ten), 20, FCB, 1);
        Trial.callChangesNothing("NEXT 0 of 0", () -> reading(0, 0, ten), 20, FCB, 1);
        Trial.callChangesNothing("NEXT 3 of 3", () -> reading(3, 3, ten), 20, FCB, 1);
        Trial.callChangesNothing("NEXT 9 of 3", () -> reading(3, 9, ten), 20, FCB, 1);
        Trial.due("NEXT 2 of 3", Trial.call(reading(3, 2, ten), 20, FCB), 0);
        Trial.due("NEXT 9 of 10", Trial.call(reading(10, 9, ten), 20, FCB), 0);
        Trial.due("NEXT 9 of 255", Trial.call(reading(255, 9, ten), 20, FCB), 0);
    }

    private static void readBlocks() {
        Trial.sentence("1 if NEXT is 10 or more, or not below byte 5, or its block is not 8 .. 31.");
        for (int block : new int[] {0, 7, 32, 40, 255}) {
            Trial.callChangesNothing("block " + block, () -> reading(2, 1, 8, block), 20, FCB, 1);
        }
        for (int block : new int[] {8, 31}) {
            DeskMachine x = reading(2, 1, 8, block);
            fill(x, block, 60);
            Trial.due("block " + block, Trial.call(x, 20, FCB), 0);
            Trial.due("its last byte", x.peek(143), 75);
        }
    }

    private static void readOverItself() {
        Trial.sentence("then NEXT becomes 1 more than it was before");
        for (int buffer = FCB; buffer <= FCB + 16; buffer += 8) {
            DeskMachine x = reading(3, 2, 8, 8, 20);
            fill(x, 20, 150);
            Trial.call(x, 26, buffer);
            Trial.due("read to " + buffer, Trial.call(x, 20, FCB), 0);
            Trial.due("NEXT", x.peek(FCB + 16), 3);
            Trial.due("a byte before it", x.peek(buffer == FCB ? FCB + 15 : buffer + 15), 165);
        }
    }

    private static void writeRefusesNext() {
        Trial.sentence("21 WRITE: 1 if NEXT is 10 or more");
        int[] ten = {8, 9, 10, 11, 12, 13, 14, 15, 16, 17};
        Trial.callChangesNothing("NEXT 10 of 10", () -> reading(10, 10, ten), 21, FCB, 1);
        Trial.callChangesNothing("NEXT 10 of 0", () -> reading(0, 10, ten), 21, FCB, 1);
        Trial.callChangesNothing("NEXT 255 of 255", () -> reading(255, 255, ten), 21, FCB, 1);
        Trial.callChangesNothing("1 comes before 2", () -> fullDisk(0, 10), 21, FCB, 1);
        DeskMachine x = reading(10, 9, ten);
        Trial.due("NEXT 9", Trial.call(x, 21, FCB), 0);
        Trial.due("NEXT then", x.peek(FCB + 16), 10);
        Trial.due("its block", x.disk(17, 0), 201);
    }

    private static void writeGetsBlock() {
        Trial.sentence("record NEXT gets a block if NEXT is not below byte 5, or its block is not 8 .. 31");
        for (int block : new int[] {0, 7, 32, 255}) {
            DeskMachine x = reading(1, 0, block);
            Trial.due("block " + block, Trial.call(x, 21, FCB), 0);
            Trial.due("gets another", x.peek(FCB + 6), 8);
            Trial.due("byte 5", x.peek(FCB + 5), 1);
            Trial.due("written", x.disk(8, 15), 216);
            Trial.due("the directory is not", x.disk(7, 15), 0);
        }
        DeskMachine y = reading(0, 0, 20);
        Trial.due("NEXT 0 of 0", Trial.call(y, 21, FCB), 0);
        Trial.due("gets one in spite of its 20", y.peek(FCB + 6), 8);
        Trial.due("20 is not written", y.disk(20, 0), 0);
        DeskMachine z = reading(2, 2, 8, 9, 20);
        Trial.due("NEXT 2 of 2", Trial.call(z, 21, FCB), 0);
        Trial.due("gets one", z.peek(FCB + 8), 10);
    }

    private static void writeKeepsBlock() {
        Trial.sentence("record NEXT gets a block if NEXT is not below byte 5, or its block is not 8 .. 31");
        for (int block : new int[] {8, 31}) {
            DeskMachine x = reading(2, 1, 12, block);
            Trial.entry(x, 0, "HAS ", block);
            Trial.due("block " + block, Trial.call(x, 21, FCB), 0);
            Trial.due("stays", x.peek(FCB + 7), block);
            Trial.due("is written", Trial.block(x, block, 0, 16), Trial.memory(x, 128, 16));
            Trial.due("byte 5 stays", x.peek(FCB + 5), 2);
            Trial.due("NEXT", x.peek(FCB + 16), 2);
        }
    }

    private static int written(DeskMachine x) {
        Trial.due("write", Trial.call(x, 21, FCB), 0);
        return x.peek(FCB + 6);
    }

    private static void writeUsed() {
        Trial.sentence("A block is USED when an entry that is not free has it among the first records that byte 5 says.");
        DeskMachine first = reading(0, 0);
        Trial.entry(first, 0, "E   ", 8);
        Trial.due("used", written(first), 9);
        DeskMachine free = reading(0, 0);
        Trial.entry(free, 0, "E   ", 8);
        free.burn(0, 0, 229);
        Trial.due("of a free entry", written(free), 8);
        DeskMachine odd = reading(0, 0);
        Trial.entry(odd, 7, "E   ", 9, 8);
        odd.burn(7, 0, 230);
        Trial.due("of entry 7 with byte 0 230", written(odd), 10);
        DeskMachine behind = reading(0, 0);
        Trial.entry(behind, 0, "E   ", 9, 8);
        behind.burn(0, 5, 1);
        Trial.due("behind what byte 5 says", written(behind), 8);
        DeskMachine none = reading(0, 0);
        Trial.entry(none, 0, "E   ", 8);
        none.burn(0, 5, 0);
        Trial.due("byte 5 is 0", written(none), 8);
        DeskMachine holes = reading(0, 0);
        Trial.entry(holes, 0, "E   ", 0, 7, 32, 255, 40, 8);
        Trial.due("numbers that are no blocks for records", written(holes), 9);
        DeskMachine again = reading(0, 0);
        Trial.entry(again, 0, "E   ", 8);
        written(again);
        again.burn(0, 0, 229);
        again.poke(FCB + 5, 0);
        again.poke(FCB + 16, 0);
        Trial.due("not any more", written(again), 8);
    }

    private static void writeOwn() {
        Trial.sentence("nor among the first records that byte 5 of this file block says");
        DeskMachine own = reading(3, 0, 0, 8, 9);
        Trial.due("two of its own", written(own), 10);
        DeskMachine behind = reading(2, 0, 0, 9, 8);
        Trial.due("behind what byte 5 says", written(behind), 8);
        DeskMachine itself = reading(1, 0, 7, 8);
        Trial.due("byte 5 is 1", written(itself), 8);
    }

    private static void writeAtMostTen() {
        Trial.sentence("(at most 10, here and for the used ones)");
        DeskMachine here = reading(255, 0, 0, 8, 9, 10, 11, 12, 13, 14, 15, 16);
        here.poke(FCB + 17, 17);
        Trial.due("here", written(here), 17);
        DeskMachine next = reading(11, 8, 20, 21, 22, 23, 24, 25, 26, 27, 0, 29);
        Trial.due("a write", Trial.call(next, 21, FCB), 0);
        Trial.due("NEXT, an 8, is no eleventh record", next.peek(FCB + 14), 8);
        DeskMachine used = reading(0, 0);
        Trial.entry(used, 0, "E   ", 8, 9, 10, 11, 12, 13, 14, 15, 16, 17);
        used.burn(0, 5, 255);
        used.burn(1, 0, 18);
        Trial.due("for the used ones", written(used), 18);
        DeskMachine eleven = reading(0, 0);
        Trial.entry(eleven, 6, "E   ", 9, 10, 11, 12, 13, 14, 15, 16, 17, 18);
        eleven.burn(6, 5, 11);
        eleven.burn(7, 0, 8);
        Trial.due("byte 0 of the next entry is no eleventh record", written(eleven), 8);
        DeskMachine ten = reading(0, 0);
        Trial.entry(ten, 0, "E   ", 9, 10, 11, 12, 13, 14, 15, 16, 17, 8);
        Trial.due("the tenth counts", written(ten), 18);
    }

    /** All blocks used but those that are left out at the end, with a file block of no records. */
    private static DeskMachine fullDisk(int left, int next) {
        DeskMachine x = reading(0, next);
        int block = 8;
        for (int e = 0; e < 3; e++) {
            int count = Math.min(10, 32 - left - block);
            int[] blocks = new int[count];
            for (int i = 0; i < count; i++) {
                blocks[i] = block;
                block++;
            }
            Trial.entry(x, e, "E" + e + "  ", blocks);
        }
        return x;
    }

    private static void writeNoBlock() {
        Trial.sentence("2 if there is none (with 1 and 2 nothing changes)");
        Trial.callChangesNothing("a full disk", () -> fullDisk(0, 0), 21, FCB, 2);
        Trial.callChangesNothing("a full disk, NEXT 9", () -> fullDisk(0, 9), 21, FCB, 2);
        DeskMachine x = fullDisk(1, 0);
        Trial.due("the last block", written(x), 31);
        Trial.due("no other", Trial.call(x, 21, FCB), 2);
        Trial.due("NEXT", x.peek(FCB + 16), 1);
        Trial.due("byte 5", x.peek(FCB + 5), 1);
        Trial.due("record 1", x.peek(FCB + 7), 0);
        x.poke(FCB + 16, 0);
        Trial.due("its own block", Trial.call(x, 21, FCB), 0);
    }

    private static void writeAsTheyAre() {
        Trial.sentence("then 16 bytes from BUFFER go there, as they are with that block in its byte");
        DeskMachine x = reading(0, 2, 40, 41, 42);
        Trial.call(x, 26, FCB + 1);
        Trial.due("BUFFER over the file block", Trial.call(x, 21, FCB), 0);
        Trial.due("what is written", Trial.block(x, 8, 0, 16),
                "ANY " + Trial.bytes(0, 40, 41, 8) + zeros(7) + Trial.bytes(2));
        Trial.due("byte 5 then", x.peek(FCB + 5), 3);
        Trial.due("NEXT then", x.peek(FCB + 16), 3);
    }

    private static void writeByte5() {
        Trial.sentence("then byte 5 becomes NEXT + 1 if it was less, NEXT grows by 1: 0.");
        int[][] cases = {{0, 0, 1}, {1, 0, 1}, {2, 0, 2}, {0, 9, 10}, {9, 9, 10}, {10, 9, 10}, {255, 9, 255}, {4, 5, 6}};
        for (int[] c : cases) {
            DeskMachine x = reading(c[0], c[1]);
            String what = "byte 5 " + c[0] + ", NEXT " + c[1];
            Trial.due(what, Trial.call(x, 21, FCB), 0);
            Trial.due(what + ": byte 5", x.peek(FCB + 5), c[2]);
            Trial.due(what + ": NEXT", x.peek(FCB + 16), c[1] + 1);
            Trial.due(what + ": its block", x.peek(FCB + 6 + c[1]), 8);
            Trial.due(what + ": byte 0", x.peek(FCB), 0);
            Trial.due(what + ": byte 17", x.peek(FCB + 17), 0);
        }
        DeskMachine y = reading(0, 0);
        for (int i = 0; i < 10; i++) {
            Trial.due("write " + i, Trial.call(y, 21, FCB), 0);
        }
        Trial.due("an eleventh write", Trial.call(y, 21, FCB), 1);
        Trial.due("its records", Trial.memory(y, FCB + 5, 12),
                Trial.bytes(10, 8, 9, 10, 11, 12, 13, 14, 15, 16, 17, 10));
    }

    private static void make() {
        Trial.sentence("22 MAKE: the first free entry gets byte 0 0, the name, and 0 for the rest");
        for (int e : new int[] {0, 3, 6}) {
            DeskMachine x = machine();
            for (int i = 0; i < e; i++) {
                x.burn(i, 0, 0);
            }
            Trial.burns(x, e, 1, 1, 1, 1, 1, 1, 1, 1, 1, 1, 1, 1, 1, 1, 1, 1);
            Trial.fileBlock(x, FCB, "M?KE");
            Trial.pokes(x, FCB + 5, 9, 9, 9, 9, 9, 9, 9, 9, 9, 9, 9, 7, 6);
            Trial.due("make", Trial.call(x, 22, FCB), e);
            Trial.due("the entry", Trial.block(x, e, 0, 16), Trial.bytes(0) + "M?KE" + zeros(11));
            Trial.due("the next one stays free", x.disk(e + 1, 0), e == 6 ? 0 : 229);
            Trial.due("the file block", Trial.memory(x, FCB, 18), Trial.bytes(0) + "M?KE" + zeros(11) + Trial.bytes(7, 6));
        }
        DeskMachine y = machine();
        Trial.entry(y, 2, "SAME", 9);
        Trial.fileBlock(y, FCB, "SAME");
        Trial.due("a name that is there already", Trial.call(y, 22, FCB), 0);
        Trial.due("the other stays", y.disk(2, 6), 9);
    }

    private static void makeNone() {
        Trial.sentence("its number; 255 if there is none.");
        Supplier<DeskMachine> making = () -> {
            DeskMachine x = machine();
            for (int e = 0; e < 8; e++) {
                x.burn(e, 0, e);
            }
            Trial.fileBlock(x, FCB, "MAKE");
            Trial.pokes(x, FCB + 5, 9, 9, 9);
            return x;
        };
        Trial.callChangesNothing("make without a free entry", making, 22, FCB, 255);
        DeskMachine last = machine();
        for (int e = 0; e < 7; e++) {
            last.burn(e, 0, 0);
        }
        last.burn(7, 0, 229);
        Trial.fileBlock(last, FCB, "MAKE");
        Trial.due("the last one", Trial.call(last, 22, FCB), 7);
    }

    private static void rename() {
        Trial.sentence("23 RENAME: the first entry with just this name gets the name in bytes 17 .. 20");
        DeskMachine x = machine();
        Trial.entry(x, 2, "FIL?", 8);
        Trial.entry(x, 3, "FILE", 9);
        Trial.entry(x, 4, "FILE", 10);
        x.burn(3, 0, 6);
        Trial.fileBlock(x, FCB, "FILE");
        x.poke(FCB + 16, 'x');
        Trial.pokes(x, FCB + 17, "N?W z");
        Trial.due("rename", Trial.call(x, 23, FCB), 0);
        Trial.due("the first", Trial.block(x, 3, 0, 7), Trial.bytes(6) + "N?W " + Trial.bytes(1, 9));
        Trial.due("the second stays", Trial.block(x, 4, 1, 4), "FILE");
        Trial.due("one with 63 stays", Trial.block(x, 2, 1, 4), "FIL?");
        Trial.due("the file block stays", Trial.memory(x, FCB + 1, 4), "FILE");
        // To a name that is there already: nothing in the document is against it.
        Trial.pokes(x, FCB + 17, "GO  ");
        Trial.due("to a name of another", Trial.call(x, 23, FCB), 0);
        Trial.due("it has it too", Trial.block(x, 4, 1, 4), "GO  ");
    }

    private static void renameNone() {
        Trial.sentence("behind the file block's beginning: 0, or 255.");
        Supplier<DeskMachine> making = () -> {
            DeskMachine x = machine();
            Trial.entry(x, 3, "FILE", 9);
            Trial.fileBlock(x, FCB, "FI?E");
            Trial.pokes(x, FCB + 17, "NEW ");
            return x;
        };
        Trial.callChangesNothing("rename of none, 63 does not match", making, 23, FCB, 255);
    }

    private static void others() {
        Trial.sentence("Others: 0.");
        Supplier<DeskMachine> making = () -> {
            DeskMachine x = Trial.begun(62, 77, 0);
            x.run(1);
            Trial.fileBlock(x, FCB, "GO  ");
            x.key(65);
            return x;
        };
        for (int c : new int[] {3, 8, 10, 12, 14, 24, 25, 27, 128, 255}) {
            Trial.callChangesNothing("call " + c, making, c, FCB, 0);
            DeskMachine x = making.get();
            Trial.call(x, c, FCB);
            Trial.due("keys behind call " + c, x.about(1), 1);
            Trial.due("shown behind call " + c, x.about(2), 1);
            Trial.due("BUFFER behind call " + c, x.register(10), 128);
        }
    }

    private static void acrossTheEnd() {
        Trial.sentence("ADDRESSES are taken modulo 512 (words are not).");
        for (int fileBlock : new int[] {ACROSS, ACROSS + 512, 65024 + ACROSS}) {
            DeskMachine x = machine();
            Trial.entry(x, 1, "EDGE", 31);
            fill(x, 31, 1);
            Trial.pokes(x, ACROSS, 0, 'E', 'D', 'G', 'E', 0);
            Trial.due("open at " + fileBlock, Trial.call(x, 15, fileBlock), 1);
            Trial.due("byte 5", x.peek(511), 1);
            Trial.due("byte 6", x.peek(0), 31);
            Trial.call(x, 26, 65530 - 10);
            Trial.due("read", Trial.call(x, 20, fileBlock), 0);
            Trial.due("NEXT", x.peek(10), 1);
            Trial.due("BUFFER below the end", x.peek(496), 1);
            Trial.pokes(x, ACROSS, 0, 'E', 'D', 'G', 'E', 1);
            Trial.due("write", Trial.call(x, 21, fileBlock), 0);
            Trial.due("record 1", x.peek(1), 8);
            Trial.due("byte 5", x.peek(511), 2);
            Trial.due("close", Trial.call(x, 16, fileBlock), 1);
            Trial.due("the entry", Trial.block(x, 1, 0, 9), Trial.bytes(0) + "EDGE" + Trial.bytes(2, 31, 8, 0));
            Trial.pokes(x, 11, "NEXT");
            Trial.due("rename", Trial.call(x, 23, fileBlock), 0);
            Trial.due("its name", Trial.block(x, 1, 1, 4), "NEXT");
        }
    }
}
