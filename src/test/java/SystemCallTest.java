/** The section "Terms": the system's calls. */
public final class SystemCallTest {
    private static final int FCB = 96;

    public static void main(String[] args) {
        leave();
        keysAndCharacters();
        others();
        open();
        close();
        search();
        searchOn();
        erase();
        read();
        readOverFileBlock();
        write();
        writeFindsBlocks();
        writeCountsTenRecordsOfItsOwn();
        writeRefuses();
        writeOverFileBlock();
        make();
        rename();
        aroundTheEnd();
        Trial.end();
    }

    private static DeskMachine machine() {
        return Trial.begun(0);
    }

    private static String zeros(int count) {
        return Trial.bytes(new int[count]);
    }

    private static void leave() {
        DeskMachine x = Trial.begun(62, 77, 14, 0, 205, 5, 0, 118);
        Trial.due("steps to the leave", x.run(100), 4);
        Trial.due("at the desk", x.about(0), 0);
        Trial.due("A stays", x.register(7), 77);
        Trial.due("PC is not popped", x.register(9), 5);
        Trial.due("SP", x.register(8), 492);
        Trial.due("nothing is shown", x.about(2), 1);
    }

    private static void keysAndCharacters() {
        DeskMachine x = machine();
        Trial.due("call 11 without a key", Trial.call(x, 11, 0), 0);
        x.key(0);
        x.key(13);
        Trial.due("call 11 with a key", Trial.call(x, 11, 0), 255);
        Trial.due("it takes none", x.about(1), 2);
        Trial.due("call 1", Trial.call(x, 1, 0), 0);
        Trial.due("call 1", Trial.call(x, 1, 0), 13);
        Trial.due("keys", x.about(1), 0);
        Trial.due("nothing is shown by it", x.about(2), 1);

        Trial.due("call 2", Trial.call(x, 2, 0x12FE), 0);
        Trial.due("E is shown", x.shown(0), 0xFE);
        Trial.due("alone", x.about(2), 2);

        Trial.pokes(x, 40, "text$more");
        Trial.due("call 9", Trial.call(x, 9, 40), 0);
        Trial.due("text", Trial.shownSince(x, 2), "text");
        Trial.due("call 9 at its end", Trial.call(x, 9, 44), 0);
        Trial.due("no text", x.about(2), 6);
        for (int i = 0; i < 64; i++) {
            x.poke((480 + i) & 511, 40 + i);
        }
        x.poke(32, 90);
        Trial.due("call 9 without a 36", Trial.call(x, 9, 480 + 1024), 0);
        Trial.due("64 are shown", x.about(2), 70);
        // The stack lies among these bytes, so only the ends are looked at.
        Trial.due("the last one", x.shown(0), 103);
        Trial.due("the first one", x.shown(63), 40);
        x.poke(36, 36);
        Trial.call(x, 9, 485);
        Trial.due("63 before a 36", x.about(2), 133);
    }

    private static void others() {
        for (int c = 0; c < 256; c++) {
            boolean known = c <= 2 || c == 9 || c == 11 || c == 26 || c >= 15 && c <= 23;
            if (!known) {
                DeskMachine x = Trial.begun(62, 77, 0);
                x.run(2);
                Trial.due("call " + c, Trial.call(x, c, 300), 0);
                Trial.due("nothing shown by " + c, x.about(2), 1);
                Trial.due("BUFFER", x.register(10), 128);
            }
        }
        DeskMachine x = machine();
        Trial.due("call 26", Trial.call(x, 26, 0xABCD), 0);
        Trial.due("BUFFER", x.register(10), 0xABCD);
        DeskMachine y = Trial.begun(55, 0);
        y.run(1);
        Trial.call(y, 3, 0);
        Trial.due("flags stay", y.register(6), 3);
    }

    private static void open() {
        DeskMachine x = machine();
        Trial.entry(x, 1, "ABCD", 9, 10);
        Trial.entry(x, 2, "ABXD", 11);
        x.burn(1, 15, 77);
        Trial.fileBlock(x, FCB, "ABXD");
        x.poke(FCB, 55);
        x.poke(FCB + 16, 66);
        Trial.due("open", Trial.call(x, 15, FCB), 2);
        Trial.due("name and blocks", Trial.memory(x, FCB, 17),
                Trial.bytes(55) + "ABXD" + Trial.bytes(1, 11) + zeros(9) + Trial.bytes(66));
        Trial.fileBlock(x, FCB, "?B?D");
        Trial.due("open the first that fits", Trial.call(x, 15, FCB), 1);
        Trial.due("its name", Trial.memory(x, FCB, 17),
                Trial.bytes(0) + "ABCD" + Trial.bytes(2, 9, 10) + zeros(7) + Trial.bytes(77, 0));
        Trial.fileBlock(x, FCB, "ABC ");
        Trial.pokes(x, FCB + 5, 1, 2, 3);
        Trial.due("no such file", Trial.call(x, 15, FCB), 255);
        Trial.due("the file block stays", Trial.memory(x, FCB + 1, 7), "ABC " + Trial.bytes(1, 2, 3));
        x.burn(1, 0, 229);
        Trial.fileBlock(x, FCB, "ABCD");
        Trial.due("a free one is none", Trial.call(x, 15, FCB), 255);
        x.burn(1, 0, 228);
        Trial.due("another byte is not free", Trial.call(x, 15, FCB), 1);
        // A 63 in the entry is no wish.
        Trial.entry(x, 0, "????");
        Trial.fileBlock(x, FCB, "ABXD");
        Trial.due("a 63 on the disk", Trial.call(x, 15, FCB), 2);
    }

    private static void close() {
        DeskMachine x = machine();
        Trial.entry(x, 1, "AAAA", 9);
        Trial.entry(x, 2, "BBBB", 10);
        Trial.entry(x, 3, "BBBB", 11);
        Trial.fileBlock(x, FCB, "BBBB");
        Trial.pokes(x, FCB, 99);
        Trial.pokes(x, FCB + 5, 3, 21, 22, 23, 24, 25, 26, 27, 28, 29, 30, 31);
        Trial.due("close", Trial.call(x, 16, FCB), 2);
        Trial.due("the entry", Trial.block(x, 2, 0, 16),
                Trial.bytes(0) + "BBBB" + Trial.bytes(3, 21, 22, 23, 24, 25, 26, 27, 28, 29, 30));
        Trial.due("the second one stays", x.disk(3, 6), 11);
        Trial.pokes(x, FCB + 1, "B?BB");
        Trial.due("close without 63", Trial.call(x, 16, FCB), 255);
        Trial.entry(x, 6, "B?BB", 12);
        Trial.due("close of just this name", Trial.call(x, 16, FCB), 6);
        Trial.pokes(x, FCB + 1, "NONE");
        Trial.due("close of none", Trial.call(x, 16, FCB), 255);
    }

    private static void search() {
        DeskMachine x = machine();
        Trial.entry(x, 2, "AB  ", 9, 10, 11);
        x.burn(2, 0, 5);
        Trial.fileBlock(x, FCB, "AB  ");
        Trial.call(x, 26, 32);
        Trial.due("search", Trial.call(x, 17, FCB), 2);
        Trial.due("BUFFER", Trial.memory(x, 32, 16), Trial.bytes(5) + "AB  " + Trial.bytes(3, 9, 10, 11) + zeros(7));
        Trial.pokes(x, 32, 1, 2, 3);
        Trial.pokes(x, FCB + 1, "AC  ");
        Trial.due("search of none", Trial.call(x, 17, FCB), 255);
        Trial.due("BUFFER stays", Trial.memory(x, 32, 3), Trial.bytes(1, 2, 3));
        Trial.pokes(x, FCB + 1, "A???");
        Trial.due("search with 63", Trial.call(x, 17, FCB), 2);
    }

    private static void searchOn() {
        DeskMachine x = machine();
        Trial.entry(x, 0, "AX  ");
        Trial.entry(x, 3, "AY  ");
        Trial.entry(x, 5, "BZ  ");
        Trial.fileBlock(x, FCB, "A???");
        Trial.due("18 before the first 17", Trial.call(x, 18, FCB), 0);
        Trial.due("18 goes on", Trial.call(x, 18, FCB), 3);
        Trial.due("in BUFFER", Trial.memory(x, 128, 5), Trial.bytes(0) + "AY  ");
        Trial.due("18: none", Trial.call(x, 18, FCB), 255);
        Trial.pokes(x, FCB + 1, "????");
        Trial.due("18: none any more", Trial.call(x, 18, FCB), 255);
        Trial.due("17 begins anew", Trial.call(x, 17, FCB), 0);
        Trial.pokes(x, FCB + 1, "B???");
        Trial.due("18 by the file block as it is now", Trial.call(x, 18, FCB), 5);
        x.burn(5, 0, 229);
        Trial.pokes(x, FCB + 1, "????");
        Trial.due("the number counts", Trial.call(x, 18, FCB), 7);
        Trial.due("17 again", Trial.call(x, 17, FCB), 0);
        Trial.entry(x, 1, "NEW ");
        Trial.due("one that came behind it", Trial.call(x, 18, FCB), 1);
        // Over programs: to the desk, and a new start.
        Trial.pokes(x, x.register(9), 118);
        x.run(1);
        Trial.type(x, "LIST");
        Trial.begin(x, 0);
        Trial.due("18 in another program", Trial.call(x, 18, FCB), 3);
        Trial.due("17 of none", Trial.call(x, 17, 300), 255);
        Trial.due("18 behind it", Trial.call(x, 18, FCB), 255);

        DeskMachine y = machine();
        Trial.fileBlock(y, FCB, "NONE");
        Trial.due("18 at first, none", Trial.call(y, 18, FCB), 255);
        Trial.pokes(y, FCB + 1, "????");
        Trial.due("none any more", Trial.call(y, 18, FCB), 255);
        Trial.due("17", Trial.call(y, 17, FCB), 7);
        Trial.due("18 behind the last entry", Trial.call(y, 18, FCB), 255);
    }

    private static void erase() {
        DeskMachine x = machine();
        Trial.entry(x, 0, "AX  ", 9);
        Trial.entry(x, 1, "BX  ", 10);
        Trial.entry(x, 4, "AY  ", 11);
        Trial.fileBlock(x, FCB, "A?  ");
        Trial.due("erase", Trial.call(x, 19, FCB), 0);
        Trial.due("entry 0", x.disk(0, 0), 229);
        Trial.due("byte 0 alone", Trial.block(x, 0, 1, 6), "AX  " + Trial.bytes(1, 9));
        Trial.due("entry 1", x.disk(1, 0), 0);
        Trial.due("entry 4", x.disk(4, 0), 229);
        Trial.due("erase again", Trial.call(x, 19, FCB), 255);
    }

    private static void fill(DeskMachine x, int block, int from) {
        for (int i = 0; i < 16; i++) {
            x.burn(block, i, (from + i) & 255);
        }
    }

    private static void read() {
        DeskMachine x = machine();
        fill(x, 8, 100);
        fill(x, 31, 200);
        Trial.fileBlock(x, FCB, "ANY ");
        Trial.pokes(x, FCB + 5, 4, 31, 8, 7, 32);
        Trial.due("read record 0", Trial.call(x, 20, FCB), 0);
        Trial.due("its first byte", x.peek(128), 200);
        Trial.due("its last byte", x.peek(143), 215);
        Trial.due("not more", x.peek(144), 0);
        Trial.due("NEXT", x.peek(FCB + 16), 1);
        Trial.call(x, 26, 20);
        Trial.due("read record 1", Trial.call(x, 20, FCB), 0);
        Trial.due("its first byte", x.peek(20), 100);
        Trial.due("block 7", Trial.call(x, 20, FCB), 1);
        Trial.due("NEXT stays", x.peek(FCB + 16), 2);
        x.poke(FCB + 16, 3);
        Trial.due("block 32", Trial.call(x, 20, FCB), 1);
        x.poke(FCB + 16, 4);
        x.poke(FCB + 10, 8);
        Trial.due("not below byte 5", Trial.call(x, 20, FCB), 1);
        x.poke(FCB + 5, 255);
        Trial.due("below byte 5", Trial.call(x, 20, FCB), 0);
        x.poke(FCB + 16, 9);
        x.poke(FCB + 15, 8);
        Trial.due("record 9", Trial.call(x, 20, FCB), 0);
        Trial.due("NEXT", x.peek(FCB + 16), 10);
        Trial.due("record 10", Trial.call(x, 20, FCB), 1);
        x.poke(FCB + 16, 255);
        Trial.due("record 255", Trial.call(x, 20, FCB), 1);
        Trial.due("NEXT stays", x.peek(FCB + 16), 255);
    }

    private static void readOverFileBlock() {
        DeskMachine x = machine();
        fill(x, 12, 50);
        Trial.fileBlock(x, FCB, "ANY ");
        Trial.pokes(x, FCB + 5, 3, 9, 12, 9);
        x.poke(FCB + 16, 1);
        Trial.call(x, 26, FCB + 1);
        Trial.due("read over the file block", Trial.call(x, 20, FCB), 0);
        Trial.due("a byte of it", x.peek(FCB + 15), 64);
        Trial.due("NEXT is 1 more than it was before", x.peek(FCB + 16), 2);
    }

    private static void write() {
        DeskMachine x = machine();
        Trial.fileBlock(x, FCB, "ANY ");
        for (int i = 0; i < 17; i++) {
            x.poke(128 + i, 70 + i);
        }
        Trial.due("write", Trial.call(x, 21, FCB), 0);
        Trial.due("block 8", x.peek(FCB + 6), 8);
        Trial.due("byte 5", x.peek(FCB + 5), 1);
        Trial.due("NEXT", x.peek(FCB + 16), 1);
        Trial.due("first byte", x.disk(8, 0), 70);
        Trial.due("last byte", x.disk(8, 15), 85);
        Trial.due("not more", x.disk(9, 0), 0);
        Trial.due("the directory stays", x.disk(0, 0), 229);
        x.poke(128, 71);
        Trial.due("write", Trial.call(x, 21, FCB), 0);
        Trial.due("block 9, since 8 is among its records", x.peek(FCB + 7), 9);
        Trial.due("its byte", x.disk(9, 0), 71);
        Trial.due("record 0 stays", x.disk(8, 0), 70);
        x.poke(FCB + 16, 0);
        x.poke(128, 1);
        Trial.due("write over record 0", Trial.call(x, 21, FCB), 0);
        Trial.due("its block", x.peek(FCB + 6), 8);
        Trial.due("its byte", x.disk(8, 0), 1);
        Trial.due("byte 5 stays", x.peek(FCB + 5), 2);
        Trial.due("NEXT", x.peek(FCB + 16), 1);
        x.poke(FCB + 7, 7);
        Trial.due("a record with block 7", Trial.call(x, 21, FCB), 0);
        Trial.due("gets one", x.peek(FCB + 7), 9);
        x.poke(FCB + 16, 0);
        x.poke(FCB + 6, 32);
        Trial.due("a record with block 32", Trial.call(x, 21, FCB), 0);
        Trial.due("gets one", x.peek(FCB + 6), 8);
        // Far behind the end: byte 5 jumps there, and an old number there does not count.
        x.poke(FCB + 16, 9);
        x.poke(FCB + 15, 31);
        Trial.due("record 9", Trial.call(x, 21, FCB), 0);
        Trial.due("gets the least", x.peek(FCB + 15), 10);
        Trial.due("byte 5", x.peek(FCB + 5), 10);
        Trial.due("NEXT", x.peek(FCB + 16), 10);
    }

    private static void writeFindsBlocks() {
        DeskMachine x = machine();
        Trial.entry(x, 0, "ONE ", 8, 10);
        Trial.entry(x, 1, "TWO ", 9);
        x.burn(1, 7, 11);
        x.burn(1, 0, 17);
        Trial.entry(x, 2, "FREE", 12);
        x.burn(2, 0, 229);
        Trial.fileBlock(x, FCB, "ANY ");
        Trial.pokes(x, FCB + 5, 1, 11, 12);
        x.poke(FCB + 16, 1);
        Trial.due("write", Trial.call(x, 21, FCB), 0);
        Trial.due("neither used nor its own", x.peek(FCB + 7), 12);
        // At most 10 records count, of an entry and of the file block.
        Trial.entry(x, 0, "ONE ", 8, 9, 10, 11, 12, 13, 14, 15, 16, 17);
        x.burn(0, 5, 255);
        x.burn(1, 0, 18);
        Trial.fileBlock(x, FCB, "ANY ");
        Trial.pokes(x, FCB + 5, 200, 0, 19, 20, 21, 22, 23, 24, 25, 26, 27);
        x.poke(FCB + 17, 18);
        Trial.due("write", Trial.call(x, 21, FCB), 0);
        Trial.due("behind those of the entry", x.peek(FCB + 6), 18);
        x.poke(FCB + 7, 0);
        Trial.due("write", Trial.call(x, 21, FCB), 0);
        Trial.due("behind its own", x.peek(FCB + 7), 19);
        Trial.due("byte 5 stays", x.peek(FCB + 5), 200);
    }

    private static void writeCountsTenRecordsOfItsOwn() {
        DeskMachine x = machine();
        Trial.fileBlock(x, FCB, "ANY ");
        Trial.pokes(x, FCB + 5, 255, 20, 21, 22, 23, 24, 25, 26, 27, 0, 28, 8);
        Trial.due("write", Trial.call(x, 21, FCB), 0);
        Trial.due("NEXT itself is no record", x.peek(FCB + 14), 8);
    }

    private static void writeRefuses() {
        DeskMachine x = machine();
        Trial.entry(x, 0, "ONE ", 8, 9, 10, 11, 12, 13, 14, 15, 16, 17);
        Trial.entry(x, 1, "TWO ", 18, 19, 20, 21, 22, 23, 24, 25, 26, 27);
        Trial.entry(x, 2, "TRI ", 28, 29, 30);
        Trial.fileBlock(x, FCB, "ANY ");
        Trial.due("the last block", Trial.call(x, 21, FCB), 0);
        Trial.due("is 31", x.peek(FCB + 6), 31);
        String before = Trial.memory(x, FCB, 21);
        Trial.due("no block", Trial.call(x, 21, FCB), 2);
        Trial.due("nothing changes", Trial.memory(x, FCB, 21), before);
        x.poke(FCB + 16, 10);
        before = Trial.memory(x, FCB, 21);
        Trial.due("NEXT is 10", Trial.call(x, 21, FCB), 1);
        Trial.due("nothing changes", Trial.memory(x, FCB, 21), before);
        x.poke(FCB + 16, 0);
        Trial.due("its own block is written all the same", Trial.call(x, 21, FCB), 0);
        x.poke(FCB + 16, 255);
        Trial.due("NEXT is 255", Trial.call(x, 21, FCB), 1);
    }

    private static void writeOverFileBlock() {
        DeskMachine x = machine();
        Trial.fileBlock(x, FCB, "ANY ");
        Trial.call(x, 26, FCB + 1);
        Trial.due("write of the file block", Trial.call(x, 21, FCB), 0);
        Trial.due("with its block, before byte 5 and NEXT grow", Trial.block(x, 8, 0, 16),
                "ANY " + Trial.bytes(0, 8) + zeros(10));
    }

    private static void make() {
        DeskMachine x = machine();
        Trial.entry(x, 0, "ONE ", 8);
        Trial.burns(x, 1, 5, 1, 2, 3, 4, 5, 6, 7, 8, 9, 10, 11);
        Trial.fileBlock(x, FCB, "N?W ");
        Trial.pokes(x, FCB, 44);
        Trial.pokes(x, FCB + 5, 1, 2, 3, 4, 5, 6, 7, 8, 9, 10, 11, 66, 77);
        Trial.due("make", Trial.call(x, 22, FCB), 1);
        Trial.due("the entry", Trial.block(x, 1, 0, 16), Trial.bytes(0) + "N?W " + zeros(11));
        Trial.due("the file block", Trial.memory(x, FCB, 18),
                Trial.bytes(44) + "N?W " + zeros(11) + Trial.bytes(66, 77));
        for (int e = 2; e < 7; e++) {
            Trial.due("make", Trial.call(x, 22, FCB), e);
        }
        x.poke(FCB + 5, 3);
        Trial.due("no free entry", Trial.call(x, 22, FCB), 255);
        Trial.due("the file block stays", x.peek(FCB + 5), 3);
    }

    private static void rename() {
        DeskMachine x = machine();
        Trial.entry(x, 0, "AAAB", 8);
        Trial.entry(x, 1, "AAAA", 9);
        Trial.entry(x, 2, "AAAA", 10);
        Trial.fileBlock(x, FCB, "AAAA");
        Trial.pokes(x, FCB + 17, "NEW?!");
        Trial.due("rename", Trial.call(x, 23, FCB), 0);
        Trial.due("the first of just this name", Trial.block(x, 1, 0, 7), Trial.bytes(0) + "NEW?" + Trial.bytes(1, 9));
        Trial.due("another one stays", Trial.block(x, 0, 1, 4), "AAAB");
        Trial.due("another one stays", Trial.block(x, 2, 1, 4), "AAAA");
        Trial.due("the file block stays", Trial.memory(x, FCB + 1, 4), "AAAA");
        Trial.pokes(x, FCB + 1, "AAA?");
        Trial.due("rename without 63", Trial.call(x, 23, FCB), 255);
    }

    /** File block and BUFFER across the end of memory. */
    private static void aroundTheEnd() {
        DeskMachine x = machine();
        int fcb = 1024 + 506;
        Trial.entry(x, 0, "EDGE", 31);
        fill(x, 31, 1);
        Trial.pokes(x, 506, 0, 'E', 'D', 'G', 'E', 0);
        Trial.due("open", Trial.call(x, 15, fcb), 0);
        Trial.due("its block", x.peek(0), 31);
        x.poke(10, 0);
        Trial.call(x, 26, 65530);
        Trial.due("read", Trial.call(x, 20, fcb), 0);
        Trial.due("BUFFER, first", x.peek(506), 1);
        Trial.due("BUFFER, across the end", x.peek(9), 16);
        Trial.due("NEXT", x.peek(10), 1);
    }
}
