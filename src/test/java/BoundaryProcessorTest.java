/** The boundary cases that the section "Terms" names for memory and processor, a test for each sentence. */
public final class BoundaryProcessorTest {
    private static final int S = 128;
    private static final int Z = 64;
    private static final int K = 16;
    private static final int P = 4;
    private static final int ONE = 2;
    private static final int Y = 1;

    public static void main(String[] args) {
        addressesOfBytes();
        addressesOfWords();
        addressesOfInstructions();
        wordsAreKept();
        pushAndPop();
        pushOfA();
        pairsGoRound();
        registersGoRound();
        countingKeepsY();
        programCounterGoesRound();
        flagsOfResults();
        growAndFall();
        sumOfPairs();
        turns();
        turnedY();
        adjustLow();
        adjustHigh();
        plus();
        minus();
        minusWithY();
        compare();
        andEitherOr();
        conditions();
        skips();
        exchange();
        calls();
        halt();
        toZero();
        toFive();
        Trial.end();
    }

    /** What is left when the instruction has met these values of A, B and the flags. */
    private static DeskMachine after(int a, int b, int flags, int code, int n) {
        // LXI B, PUSH B, POP A and flags, MVI B
        DeskMachine x = Trial.begun(1, flags, a, 197, 241, 6, b, code, n);
        x.run(5);
        return x;
    }

    private static void due(String what, DeskMachine x, int a, int flags) {
        Trial.due(what + ": A", x.register(7), a);
        Trial.due(what + ": flags", x.register(6), flags);
    }

    private static int pair(DeskMachine x, int p) {
        return p == 3 ? x.register(8) : 256 * x.register(2 * p) + x.register(2 * p + 1);
    }

    private static void addressesOfBytes() {
        Trial.sentence("ADDRESSES are taken modulo 512 (words are not).");
        int[] far = {0, 512, 1024, 32768, 65024};
        for (int base : far) {
            for (int a : new int[] {0, 77, 511}) {
                int at = base + a;
                int low = at & 255;
                int high = at >> 8;
                // MVI A 9, then the byte at BC, DE, w and HL become A
                int[][] puts = {{1, low, high, 2}, {17, low, high, 18}, {0, 50, low, high}, {33, low, high, 119}};
                // A = the byte at BC, DE, w and HL
                int[][] gets = {{1, low, high, 10}, {17, low, high, 26}, {0, 58, low, high}, {33, low, high, 126}};
                for (int i = 0; i < 4; i++) {
                    DeskMachine x = Trial.begun(62, 9, puts[i][0], puts[i][1], puts[i][2], puts[i][3]);
                    x.poke(a, 5);
                    x.run(3);
                    Trial.due("put " + i + " at " + at, x.peek(a), 9);
                    DeskMachine y = Trial.begun(62, 9, gets[i][0], gets[i][1], gets[i][2], gets[i][3]);
                    y.poke(a, 5);
                    y.run(3);
                    Trial.due("get " + i + " at " + at, y.register(7), 5);
                }
            }
        }
    }

    private static void addressesOfWords() {
        Trial.sentence("ADDRESSES are taken modulo 512 (words are not).");
        for (int at : new int[] {511, 1023, 65535}) {
            // LXI H, word at w = HL, LXI H, HL = word at w
            DeskMachine x = Trial.begun(33, 52, 18, 34, at & 255, at >> 8, 33, 0, 0, 42, at & 255, at >> 8);
            x.run(2);
            Trial.due("low of the word at " + at, x.peek(511), 52);
            Trial.due("high of the word at " + at, x.peek(0), 18);
            Trial.due("not below", x.peek(510), 0);
            Trial.due("not above", x.peek(1), 0);
            x.run(2);
            Trial.due("HL = word at " + at, pair(x, 2), 18 * 256 + 52);
        }
    }

    private static void addressesOfInstructions() {
        Trial.sentence("ADDRESSES are taken modulo 512 (words are not).");
        for (int at : new int[] {510, 511, 1022, 1023}) {
            DeskMachine x = Trial.begun(195, at & 255, at >> 8);
            int[] code = {33, 52, 18};
            for (int i = 0; i < 3; i++) {
                x.poke((at + i) & 511, code[i]);
            }
            x.run(2);
            Trial.due("HL = w at " + at, pair(x, 2), 18 * 256 + 52);
            Trial.due("PC", x.register(9), at + 3);
        }
    }

    private static void wordsAreKept() {
        Trial.sentence("(words are not)");
        // LXI SP 512, LXI H 513, JMP 768
        DeskMachine x = Trial.begun(49, 0, 2, 33, 1, 2, 195, 0, 3);
        x.run(3);
        Trial.due("SP", x.register(8), 512);
        Trial.due("HL", pair(x, 2), 513);
        Trial.due("PC", x.register(9), 768);
        Trial.due("it runs at 768 what stands at 256", x.run(1), 1);
        Trial.due("PC behind LXI SP", x.register(9), 771);
    }

    private static void pushAndPop() {
        Trial.sentence("A PUSH lowers SP by 2 and puts a word there, a POP takes one and raises it.");
        int[] stacks = {0, 1, 2, 512, 513, 65535};
        for (int sp : stacks) {
            int pushed = (sp + 65534) & 65535;
            // LXI SP, LXI B, PUSH B, POP D
            DeskMachine x = Trial.begun(49, sp & 255, sp >> 8, 1, 52, 18, 197, 209);
            x.run(3);
            Trial.due("SP behind a push from " + sp, x.register(8), pushed);
            Trial.due("low", x.peek(pushed & 511), 52);
            Trial.due("high", x.peek((pushed + 1) & 511), 18);
            x.run(1);
            Trial.due("SP behind the pop to " + sp, x.register(8), sp);
            Trial.due("what is popped", pair(x, 1), 18 * 256 + 52);
        }
        DeskMachine y = Trial.begun(49, 254, 255, 193, 193);
        Trial.pokes(y, 510, 1, 2);
        Trial.pokes(y, 0, 3, 4);
        y.run(2);
        Trial.due("a pop from 65534: SP", y.register(8), 0);
        Trial.due("BC", pair(y, 0), 2 * 256 + 1);
        y.run(1);
        Trial.due("a pop from 0: SP", y.register(8), 2);
        Trial.due("BC", pair(y, 0), 4 * 256 + 3);
    }

    private static void pushOfA() {
        Trial.sentence("y even: pair y / 2 (6: A and the flags) is pushed");
        for (int a : new int[] {0, 1, 128, 255}) {
            // MVI A, STC, PUSH A and flags, POP B
            DeskMachine x = Trial.begun(62, a, 55, 245, 193);
            x.run(3);
            Trial.due("low: the flags", x.peek(492), ONE + Y);
            Trial.due("high: A", x.peek(493), a);
            x.run(1);
            Trial.due("popped", pair(x, 0), 256 * a + ONE + Y);
        }
    }

    private static void pairsGoRound() {
        Trial.sentence("All is modulo 65536 or 256.");
        for (int p = 0; p < 4; p++) {
            // LXI 255, INX, DCX; LXI 0, DCX, INX
            DeskMachine x = Trial.begun(1 + 16 * p, 255, 255, 3 + 16 * p, 11 + 16 * p);
            x.run(2);
            Trial.due("pair " + p + " grows from 65535", pair(x, p), 0);
            x.run(1);
            Trial.due("pair " + p + " falls from 0", pair(x, p), 65535);
            Trial.due("no flag", x.register(6), ONE);
            DeskMachine y = Trial.begun(1 + 16 * p, 255, 0, 3 + 16 * p, 11 + 16 * p);
            y.run(2);
            Trial.due("pair " + p + " grows from 255", pair(y, p), 256);
            y.run(1);
            Trial.due("pair " + p + " falls from 256", pair(y, p), 255);
        }
    }

    private static void registersGoRound() {
        Trial.sentence("All is modulo 65536 or 256.");
        for (int r : new int[] {0, 1, 2, 3, 4, 5, 7}) {
            DeskMachine x = Trial.begun(6 + 8 * r, 255, 4 + 8 * r, 5 + 8 * r);
            x.run(2);
            Trial.due("register " + r + " grows from 255", x.register(r), 0);
            Trial.due("flags", x.register(6), Z + K + P + ONE);
            x.run(1);
            Trial.due("register " + r + " falls from 0", x.register(r), 255);
            Trial.due("flags", x.register(6), S + P + ONE);
            for (int other = 0; other < 8; other++) {
                if (other != r && other != 6) {
                    Trial.due("register " + other + " beside it", x.register(other), 0);
                }
            }
        }
        DeskMachine m = Trial.begun(33, 255, 3, 52, 53);
        m.poke(511, 255);
        m.run(2);
        Trial.due("the byte at HL grows from 255", m.peek(511), 0);
        Trial.due("flags", m.register(6), Z + K + P + ONE);
        Trial.due("the next byte stays", m.peek(0), 0);
        m.run(1);
        Trial.due("the byte at HL falls from 0", m.peek(511), 255);
        Trial.due("flags", m.register(6), S + P + ONE);
    }

    private static void countingKeepsY() {
        Trial.sentence("it falls by 1: S, Z, P, and K");
        due("255 grows with Y 1", after(255, 0, Y, 60, 0), 0, Z + K + P + ONE + Y);
        due("255 grows with Y 0", after(255, 0, 0, 60, 0), 0, Z + K + P + ONE);
        due("0 falls with Y 1", after(0, 0, Y, 61, 0), 255, S + P + ONE + Y);
        due("0 falls with Y 0", after(0, 0, 0, 61, 0), 255, S + P + ONE);
    }

    private static void programCounterGoesRound() {
        Trial.sentence("All is modulo 65536 or 256.");
        // An instruction of one, two and three bytes at 65535, and a call there
        DeskMachine one = at65535(60, 0, 0);
        Trial.due("one byte: PC", one.register(9), 0);
        Trial.due("A", one.register(7), 1);
        Trial.due("PC is 0 then", one.about(0), 0);
        DeskMachine two = at65535(62, 88, 0);
        Trial.due("two bytes: PC", two.register(9), 1);
        Trial.due("A", two.register(7), 88);
        Trial.due("it runs", two.about(0), 1);
        DeskMachine three = at65535(33, 52, 18);
        Trial.due("three bytes: PC", three.register(9), 2);
        Trial.due("HL", pair(three, 2), 18 * 256 + 52);
        DeskMachine call = at65535(205, 52, 18);
        Trial.due("a call: PC", call.register(9), 18 * 256 + 52);
        Trial.due("what is pushed", call.peek(492) + 256 * call.peek(493), 2);
    }

    private static DeskMachine at65535(int first, int second, int third) {
        DeskMachine x = Trial.begun(195, 255, 255);
        x.poke(511, first);
        x.poke(0, second);
        x.poke(1, third);
        x.run(2);
        return x;
    }

    private static void flagsOfResults() {
        Trial.sentence("S (bit 7 of a result), Z (it is 0), P (it has an even number of 1 bits)");
        int[] results = {0, 1, 2, 3, 127, 128, 129, 254, 255};
        int[] flags = {Z + P, 0, 0, P, 0, S, S + P, S, S + P};
        for (int i = 0; i < results.length; i++) {
            // OR with 0
            due("result " + results[i], after(results[i], 0, 255, 176, 0), results[i], flags[i] + ONE);
            due("result " + results[i], after(results[i], 0, 0, 246, 0), results[i], flags[i] + ONE);
        }
    }

    private static void growAndFall() {
        Trial.sentence("K: 1 if the low four bits are 0 (z 4), or are not 15 (z 5) then.");
        due("14 grows", after(14, 0, K, 60, 0), 15, P + ONE);
        due("15 grows", after(15, 0, 0, 60, 0), 16, K + ONE);
        due("16 grows", after(16, 0, K, 60, 0), 17, P + ONE);
        due("127 grows", after(127, 0, 0, 60, 0), 128, S + K + ONE);
        due("255 grows", after(255, 0, 0, 60, 0), 0, Z + K + P + ONE);
        due("17 falls", after(17, 0, 0, 61, 0), 16, K + ONE);
        due("16 falls", after(16, 0, K, 61, 0), 15, P + ONE);
        due("15 falls", after(15, 0, 0, 61, 0), 14, K + ONE);
        due("1 falls", after(1, 0, 0, 61, 0), 0, Z + K + P + ONE);
        due("0 falls", after(0, 0, K, 61, 0), 255, S + P + ONE);
        due("128 falls", after(128, 0, K, 61, 0), 127, ONE);
    }

    private static void sumOfPairs() {
        Trial.sentence("HL = HL + pair y / 2, Y the carry (y odd)");
        int[][] sums = {{65535, 0, 65535, 0}, {65535, 1, 0, 1}, {65535, 65535, 65534, 1}, {32768, 32768, 0, 1},
            {32767, 32768, 65535, 0}, {0, 0, 0, 0}, {255, 1, 256, 0}};
        for (int[] s : sums) {
            for (int p : new int[] {0, 1, 3}) {
                // STC, LXI, LXI H, DAD
                DeskMachine x = Trial.begun(55, 1 + 16 * p, s[1] & 255, s[1] >> 8, 33, s[0] & 255, s[0] >> 8, 9 + 16 * p);
                x.run(4);
                Trial.due(s[0] + " + " + s[1], pair(x, 2), s[2]);
                Trial.due("flags", x.register(6), ONE + s[3]);
                Trial.due("the pair stays", pair(x, p), s[1]);
            }
        }
        for (int[] s : new int[][] {{32767, 65534, 0}, {32768, 0, 1}, {65535, 65534, 1}}) {
            DeskMachine x = Trial.begun(33, s[0] & 255, s[0] >> 8, 41);
            x.run(2);
            Trial.due("HL + HL of " + s[0], pair(x, 2), s[1]);
            Trial.due("flags", x.register(6), ONE + s[2]);
        }
    }

    private static void turns() {
        Trial.sentence("A turns left by one, Y is the bit that went round; right; left through Y");
        int rest = S + Z + K + P + ONE;
        due("128 left", after(128, 0, rest, 7, 0), 1, rest + Y);
        due("127 left", after(127, 0, rest + Y, 7, 0), 254, rest);
        due("1 right", after(1, 0, rest, 15, 0), 128, rest + Y);
        due("254 right", after(254, 0, rest + Y, 15, 0), 127, rest);
        due("128 left through Y 0", after(128, 0, rest, 23, 0), 0, rest + Y);
        due("127 left through Y 1", after(127, 0, rest + Y, 23, 0), 255, rest);
        due("1 right through Y 0", after(1, 0, rest, 31, 0), 0, rest + Y);
        due("254 right through Y 1", after(254, 0, rest + Y, 31, 0), 255, rest);
        Trial.sentence("A = 255 - A; Y = 1; Y = 1 - Y.");
        due("255 - 0", after(0, 0, rest, 47, 0), 255, rest);
        due("255 - 255", after(255, 0, rest + Y, 47, 0), 0, rest + Y);
        due("Y = 1 of 0", after(9, 0, rest, 55, 0), 9, rest + Y);
        due("Y = 1 of 1", after(9, 0, rest + Y, 55, 0), 9, rest + Y);
        due("1 - 0", after(9, 0, rest, 63, 0), 9, rest + Y);
        due("1 - 1", after(9, 0, rest + Y, 63, 0), 9, rest);
    }

    private static void turnedY() {
        Trial.sentence("Y = 1; Y = 1 - Y.");
        // STC, CMC as often as it says, then MVI A 0 and left through Y
        for (int times = 0; times <= 3; times++) {
            DeskMachine x = Trial.begun(55, times > 0 ? 63 : 0, times > 1 ? 63 : 0, times > 2 ? 63 : 0, 62, 0, 23);
            x.run(6);
            due("Y turned " + times + " times", x, 1 - times % 2, ONE);
        }
        Trial.sentence("Y is 1 less the carry.");
        DeskMachine less = Trial.begun(214, 1, 62, 0, 23);
        less.run(3);
        due("Y of 0 - 1", less, 1, S + P + ONE);
        DeskMachine same = Trial.begun(214, 0, 62, 0, 23);
        same.run(3);
        due("Y of 0 - 0", same, 0, Z + K + P + ONE);
    }

    private static void adjustLow() {
        Trial.sentence("if the low four bits of A are above 9 or K is 1, 6 is added, else 0");
        due("9", after(9, 0, 0, 39, 0), 9, P + ONE);
        due("10", after(10, 0, 0, 39, 0), 16, K + ONE);
        due("15", after(15, 0, 0, 39, 0), 21, K + ONE);
        due("0 with K", after(0, 0, K, 39, 0), 6, P + ONE);
        due("9 with K: no carry from bit 3", after(9, 0, K, 39, 0), 15, P + ONE);
        due("10 with K: once 6", after(10, 0, K, 39, 0), 16, K + ONE);
        due("0", after(0, 0, 0, 39, 0), 0, Z + P + ONE);
    }

    private static void adjustHigh() {
        Trial.sentence("then, if A was above 153 or Y was 1, 96 more, and Y is 1 (else Y stays 0)");
        due("153", after(153, 0, 0, 39, 0), 153, S + P + ONE);
        due("154", after(154, 0, 0, 39, 0), 0, Z + K + P + ONE + Y);
        due("160", after(160, 0, 0, 39, 0), 0, Z + P + ONE + Y);
        due("159", after(159, 0, 0, 39, 0), 5, K + P + ONE + Y);
        due("255", after(255, 0, 0, 39, 0), 101, K + P + ONE + Y);
        // 153 + 6 is above 153, but what A was counts.
        due("153 with K", after(153, 0, K, 39, 0), 159, S + P + ONE);
        due("0 with Y", after(0, 0, Y, 39, 0), 96, P + ONE + Y);
        due("0 with K and Y", after(0, 0, K + Y, 39, 0), 102, P + ONE + Y);
        due("159 with Y: once 96", after(154, 0, Y, 39, 0), 0, Z + K + P + ONE + Y);
    }

    private static void plus() {
        Trial.sentence("PLUS: K, Y the carries.");
        due("15 + 0", after(15, 0, Y, 128, 0), 15, P + ONE);
        due("15 + 1", after(15, 1, 0, 128, 0), 16, K + ONE);
        due("255 + 1", after(255, 1, 0, 128, 0), 0, Z + K + P + ONE + Y);
        due("240 + 16", after(240, 16, 0, 128, 0), 0, Z + P + ONE + Y);
        due("255 + 255", after(255, 255, 0, 128, 0), 254, S + K + ONE + Y);
        due("127 + 1", after(127, 1, 0, 128, 0), 128, S + K + ONE);
        due("255 + 0 and no Y taken", after(255, 0, Y, 128, 0), 255, S + P + ONE);
        due("255 + 0 with Y", after(255, 0, Y, 136, 0), 0, Z + K + P + ONE + Y);
        due("255 + 255 with Y", after(255, 255, Y, 136, 0), 255, S + K + P + ONE + Y);
        due("15 + 0 with Y", after(15, 0, Y, 136, 0), 16, K + ONE);
        due("15 + 0 with Y that is 0", after(15, 0, 0, 136, 0), 15, P + ONE);
        due("255 + n 1", after(255, 9, 0, 198, 1), 0, Z + K + P + ONE + Y);
        due("254 + n 1 with Y", after(254, 9, Y, 206, 1), 0, Z + K + P + ONE + Y);
    }

    private static void minus() {
        Trial.sentence("MINUS: 255 less the second and 1 (less Y) are added: K the carry of that, Y is 1 less the carry.");
        due("0 - 0", after(0, 0, Y, 144, 0), 0, Z + K + P + ONE);
        due("0 - 1", after(0, 1, 0, 144, 0), 255, S + P + ONE + Y);
        due("1 - 1", after(1, 1, Y, 144, 0), 0, Z + K + P + ONE);
        due("16 - 1", after(16, 1, 0, 144, 0), 15, P + ONE);
        due("15 - 15", after(15, 15, 0, 144, 0), 0, Z + K + P + ONE);
        due("0 - 255", after(0, 255, 0, 144, 0), 1, ONE + Y);
        due("255 - 255", after(255, 255, 0, 144, 0), 0, Z + K + P + ONE);
        due("255 - 0", after(255, 0, 0, 144, 0), 255, S + K + P + ONE);
        due("128 - n 1", after(128, 9, 0, 214, 1), 127, ONE);
        due("0 - n 1", after(0, 9, 0, 214, 1), 255, S + P + ONE + Y);
    }

    private static void minusWithY() {
        Trial.sentence("MINUS: 255 less the second and 1 (less Y) are added: K the carry of that, Y is 1 less the carry.");
        due("0 - 0 with Y", after(0, 0, Y, 152, 0), 255, S + P + ONE + Y);
        due("0 - 0 with Y that is 0", after(0, 0, 0, 152, 0), 0, Z + K + P + ONE);
        due("1 - 0 with Y", after(1, 0, Y, 152, 0), 0, Z + K + P + ONE);
        due("0 - 255 with Y", after(0, 255, Y, 152, 0), 0, Z + P + ONE + Y);
        due("255 - 255 with Y", after(255, 255, Y, 152, 0), 255, S + P + ONE + Y);
        due("16 - 0 with Y", after(16, 0, Y, 152, 0), 15, P + ONE);
        due("16 - n 15 with Y", after(16, 9, Y, 222, 15), 0, Z + P + ONE);
    }

    private static void compare() {
        Trial.sentence("COMPARE (MINUS without its result)");
        due("5 and 5", after(5, 5, Y, 184, 0), 5, Z + K + P + ONE);
        due("5 and 6", after(5, 6, 0, 184, 0), 5, S + P + ONE + Y);
        due("6 and 5", after(6, 5, Y, 184, 0), 6, K + ONE);
        due("0 and n 255", after(0, 9, 0, 254, 255), 0, ONE + Y);
        due("255 and n 0", after(255, 9, Y, 254, 0), 255, S + K + P + ONE);
        due("A with itself", after(200, 9, Y, 191, 0), 200, Z + K + P + ONE);
    }

    private static void andEitherOr() {
        Trial.sentence("AND: Y is 0, K bit 3 of (either of the two has it). EITHER, OR: Y and K are 0.");
        due("8 and 0", after(8, 0, Y, 160, 0), 0, Z + K + P + ONE);
        due("0 and 8", after(0, 8, Y, 160, 0), 0, Z + K + P + ONE);
        due("8 and 8", after(8, 8, Y, 160, 0), 8, K + ONE);
        due("247 and 247", after(247, 247, K + Y, 160, 0), 247, S + ONE);
        due("0 and n 8", after(0, 0, Y, 230, 8), 0, Z + K + P + ONE);
        due("255 either 255", after(255, 255, K + Y, 168, 0), 0, Z + P + ONE);
        due("255 either n 0", after(255, 9, K + Y, 238, 0), 255, S + P + ONE);
        due("0 or 0", after(0, 0, K + Y, 176, 0), 0, Z + P + ONE);
        due("15 or n 240", after(15, 9, K + Y, 246, 240), 255, S + P + ONE);
        due("A either A", after(99, 9, K + Y, 175, 0), 0, Z + P + ONE);
    }

    private static void conditions() {
        Trial.sentence("return (PC is popped) if CONDITION y holds: 0 .. 7: Z 0, Z 1, Y 0, Y 1, P 0, P 1, S 0, S 1.");
        int[] bits = {Z, Y, P, S};
        for (int c = 0; c < 8; c++) {
            int bit = bits[c / 2];
            int others = S + Z + K + P + Y - bit;
            boolean wanted = c % 2 == 1;
            returns(c, 0, !wanted);
            returns(c, others, !wanted);
            returns(c, bit, wanted);
            returns(c, bit + others, wanted);
        }
    }

    private static void returns(int condition, int flags, boolean holds) {
        DeskMachine x = Trial.begun(1, flags, 0, 197, 241, 192 + 8 * condition);
        Trial.pokes(x, 494, 52, 18);
        x.run(4);
        String what = "condition " + condition + " with flags " + flags;
        Trial.due(what + ": PC", x.register(9), holds ? 18 * 256 + 52 : 262);
        Trial.due(what + ": SP", x.register(8), holds ? 496 : 494);
        DeskMachine to = Trial.begun(1, flags, 0, 197, 241, 194 + 8 * condition, 52, 18);
        to.run(4);
        Trial.due("to w, " + what + ": PC", to.register(9), holds ? 18 * 256 + 52 : 264);
        DeskMachine call = Trial.begun(1, flags, 0, 197, 241, 196 + 8 * condition, 52, 18);
        call.run(4);
        Trial.due("call w, " + what + ": PC", call.register(9), holds ? 18 * 256 + 52 : 264);
        Trial.due("call w, " + what + ": SP", call.register(8), holds ? 492 : 494);
    }

    private static void skips() {
        Trial.sentence("2, 3: nothing (n is skipped)");
        for (int code : new int[] {211, 219}) {
            DeskMachine x = Trial.begun(code, 118, 60);
            x.run(2);
            Trial.due("PC behind " + code + " and one more", x.register(9), 259);
            Trial.due("A", x.register(7), 1);
            DeskMachine y = at65535(code, 118, 0);
            Trial.due(code + " at 65535: PC", y.register(9), 1);
            Trial.due("it runs", y.about(0), 1);
        }
        Trial.sentence("6, 7: nothing.");
        for (int code : new int[] {243, 251, 0, 8, 16, 24, 32, 40, 48, 56}) {
            DeskMachine x = Trial.begun(code, 60);
            x.run(1);
            Trial.due(code + ": PC", x.register(9), 257);
            due("" + code, x, 0, ONE);
        }
    }

    private static void exchange() {
        Trial.sentence("4: HL and the word at SP change places");
        for (int sp : new int[] {511, 65535}) {
            DeskMachine x = Trial.begun(49, sp & 255, sp >> 8, 33, 52, 18, 227);
            x.poke(511, 86);
            x.poke(0, 120);
            x.run(3);
            Trial.due("HL", pair(x, 2), 120 * 256 + 86);
            Trial.due("low", x.peek(511), 52);
            Trial.due("high", x.peek(0), 18);
            Trial.due("SP stays", x.register(8), sp);
        }
        Trial.sentence("a POP takes one and raises it");
        DeskMachine y = Trial.begun(33, 52, 18, 227, 225, 229);
        Trial.pokes(y, 494, 1, 2);
        y.run(3);
        Trial.due("what changed places is popped again", pair(y, 2), 18 * 256 + 52);
        y.run(1);
        Trial.due("and pushed", y.peek(494) + 256 * y.peek(495), 18 * 256 + 52);
        Trial.sentence("5: DE and HL do");
        DeskMachine z = Trial.begun(17, 255, 255, 33, 52, 18, 235);
        z.run(3);
        Trial.due("DE", pair(z, 1), 18 * 256 + 52);
        Trial.due("HL", pair(z, 2), 65535);
    }

    private static void calls() {
        Trial.sentence("z 7: call 8 * y.");
        for (int y = 0; y < 8; y++) {
            DeskMachine x = Trial.begun(199 + 8 * y);
            x.run(1);
            Trial.due("PC of y " + y, x.register(9), 8 * y);
            Trial.due("pushed", x.peek(492) + 256 * x.peek(493), 257);
            Trial.due("at the desk with y 0 alone", x.about(0), y == 0 ? 0 : 1);
        }
        Trial.sentence("7: SP = HL.");
        DeskMachine z = Trial.begun(33, 255, 255, 249);
        z.run(2);
        Trial.due("SP", z.register(8), 65535);
    }

    private static void halt() {
        Trial.sentence("or a program HALTS (PC behind it; the processor stays as it is)");
        // all registers filled, Y and others set: MVI A 255, ADD A, HALT
        DeskMachine x = Trial.begun(1, 2, 1, 17, 4, 3, 33, 6, 5, 62, 255, 135, 118, 60);
        Trial.due("five steps and the halt", x.run(1000), 6);
        int[] left = {1, 2, 3, 4, 5, 6, S + K + ONE + Y, 254, 494, 269, 128};
        for (int r = 0; r <= 10; r++) {
            Trial.due("register " + r, x.register(r), left[r]);
        }
        Trial.due("at the desk", x.about(0), 0);
        Trial.due("nothing more is shown", x.about(2), 1);
        Trial.due("run without a key", x.run(5), 0);
        DeskMachine last = at65535(118, 0, 0);
        Trial.due("a halt at 65535: PC", last.register(9), 0);
        Trial.due("at the desk", last.about(0), 0);
    }

    private static void toZero() {
        Trial.sentence("from when PC is 0 (as a word) behind a step");
        int[][] programs = {{195, 0, 0}, {205, 0, 0}, {201}, {199}, {33, 0, 0, 233}, {202, 0, 0, 175, 202, 0, 0}};
        int[] steps = {1, 1, 1, 1, 2, 3};
        for (int i = 0; i < programs.length; i++) {
            DeskMachine x = Trial.begun(programs[i]);
            Trial.due("steps of program " + i, x.run(1000), steps[i]);
            Trial.due("PC", x.register(9), 0);
            Trial.due("at the desk", x.about(0), 0);
        }
        for (int word : new int[] {512, 1024, 65024, 256, 1}) {
            DeskMachine x = Trial.begun(195, word & 255, word >> 8);
            x.poke(0, 60);
            Trial.due("a jump to " + word, x.run(1), 1);
            Trial.due(word + " is not 0", x.about(0), 1);
            Trial.due("the next step", x.run(1), 1);
            Trial.due("PC", x.register(9), word == 256 ? 256 : word + 1);
        }
    }

    private static void toFive() {
        Trial.sentence("(PC is looked at as a word.)");
        for (int word : new int[] {517, 1029, 65029}) {
            DeskMachine x = Trial.begun(14, 2, 195, word & 255, word >> 8);
            x.poke(5, 60);
            x.run(3);
            Trial.due(word + " is an instruction: A", x.register(7), 1);
            Trial.due("PC", x.register(9), word + 1);
            Trial.due("nothing is shown", x.about(2), 1);
        }
        // By the step before it: a NOP at 4
        DeskMachine y = Trial.begun(14, 2, 30, 90, 195, 4, 0);
        y.poke(5, 118);
        y.run(4);
        Trial.due("from 4 to 5", y.register(9), 5);
        y.run(1);
        Trial.due("the call was done", y.shown(0), 90);
        Trial.due("it popped the 0 of the start", y.about(0), 0);
        DeskMachine z = Trial.begun(14, 2, 33, 5, 0, 233);
        Trial.due("PC = HL of 5", z.run(4), 4);
        Trial.due("it popped the 0 of the start", z.register(9), 0);
        Trial.due("E was shown", z.about(2), 2);
    }
}
