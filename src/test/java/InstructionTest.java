/** The section "Terms": every instruction, by its effect on registers, flags, stack and memory. */
public final class InstructionTest {
    public static void main(String[] args) {
        arithmetic();
        logic();
        adjust();
        turns();
        growAndFall();
        moves();
        carryIsUsed();
        pairs();
        addressed();
        nothings();
        jumpsCallsReturns();
        stack();
        wrapping();
        Trial.end();
    }

    private static int parity(int v) {
        int ones = 0;
        for (int i = 0; i < 8; i++) {
            ones += v >> i & 1;
        }
        return ones % 2 == 0 ? 1 : 0;
    }

    private static int flags(int result, int k, int y) {
        return (result >= 128 ? 128 : 0) + (result == 0 ? 64 : 0) + 16 * k + 4 * parity(result) + 2 + y;
    }

    private static void arithmetic() {
        for (int a = 0; a < 256; a += 1) {
            for (int b = 0; b < 256; b += a % 5 == 0 ? 1 : 13) {
                for (int y = 0; y < 2; y++) {
                    sum(128, a, b, y, a + b, (a % 16 + b % 16) / 16);
                    sum(136, a, b, y, a + b + y, (a % 16 + b % 16 + y) / 16);
                    difference(144, a, b, y, a - b, a % 16 >= b % 16);
                    difference(152, a, b, y, a - b - y, a % 16 >= b % 16 + y);
                    difference(184, a, b, y, a - b, a % 16 >= b % 16);
                }
            }
        }
    }

    private static void sum(int code, int a, int b, int y, int sum, int k) {
        both(code, a, b, y, sum & 255, flags(sum & 255, k, sum / 256));
    }

    private static void difference(int code, int a, int b, int y, int difference, boolean k) {
        int result = difference & 255;
        both(code, a, b, y, code == 184 ? a : result, flags(result, k ? 1 : 0, difference < 0 ? 1 : 0));
    }

    /** With register B, and with the byte that follows. */
    private static void both(int code, int a, int b, int y, int wantA, int wantFlags) {
        if ((a + b) % 3 == 0) {
            one(code + 70, a, b ^ 255, y, b, wantA, wantFlags);
        } else {
            one(code, a, b, y, 0, wantA, wantFlags);
        }
    }

    private static void one(int code, int a, int b, int y, int n, int wantA, int wantFlags) {
        one(code, a, b, 0xD4 + y, n, wantA, wantFlags, code >= 192 ? 2 : 1);
        one(code, a, b, y, n, wantA, wantFlags, code >= 192 ? 2 : 1);
    }

    private static void one(int code, int a, int b, int flags, int n, int wantA, int wantFlags, int length) {
        // LXI B, PUSH B, POP PSW, MVI B, then the instruction
        DeskMachine x = Trial.begun(1, flags, a, 197, 241, 6, b, code, n);
        x.run(5);
        String what = code + " with A " + a + ", second " + (length == 2 ? n : b) + ", flags " + flags + ": ";
        Trial.due(what + "A", x.register(7), wantA);
        Trial.due(what + "flags", x.register(6), wantFlags);
        Trial.due(what + "PC", x.register(9), 263 + length);
    }

    private static void logic() {
        for (int a = 0; a < 256; a++) {
            for (int b = a % 7; b < 256; b += 7) {
                for (int y = 0; y < 2; y++) {
                    both(160, a, b, y, a & b, flags(a & b, (a & 8) + (b & 8) > 0 ? 1 : 0, 0));
                    both(168, a, b, y, a ^ b, flags(a ^ b, 0, 0));
                    both(176, a, b, y, a | b, flags(a | b, 0, 0));
                }
            }
        }
    }

    private static void adjust() {
        for (int a = 0; a < 256; a++) {
            for (int k = 0; k < 2; k++) {
                for (int y = 0; y < 2; y++) {
                    int low = a % 16 > 9 || k == 1 ? 6 : 0;
                    int high = a > 153 || y == 1 ? 96 : 0;
                    int result = (a + low + high) % 256;
                    one(39, a, 0, 16 * k + y, 0, result,
                            flags(result, a % 16 + low > 15 ? 1 : 0, high == 0 ? 0 : 1), 1);
                }
            }
        }
        one(39, 0x9A, 0, 0, 0, 0, 87, 1);
        one(39, 0x99, 0, 0, 0, 0x99, 134, 1);
        one(39, 0x15, 0, 16, 0, 0x1B, 6, 1);
    }

    private static void turns() {
        for (int a = 0; a < 256; a++) {
            for (int y = 0; y < 2; y++) {
                int others = 0xD4 + 2;
                one(7, a, 0, 0xD4 + y, 0, (a * 2 + a / 128) & 255, others + a / 128, 1);
                one(15, a, 0, 0xD4 + y, 0, a / 2 + a % 2 * 128, others + a % 2, 1);
                one(23, a, 0, 0xD4 + y, 0, (a * 2 + y) & 255, others + a / 128, 1);
                one(31, a, 0, 0xD4 + y, 0, a / 2 + y * 128, others + a % 2, 1);
                one(47, a, 0, 0xD4 + y, 0, 255 - a, others + y, 1);
                one(55, a, 0, y, 0, a, 3, 1);
                one(63, a, 0, y, 0, a, 3 - y, 1);
            }
        }
    }

    private static void growAndFall() {
        for (int a = 0; a < 256; a++) {
            for (int y = 0; y < 2; y++) {
                int up = (a + 1) & 255;
                int down = (a + 255) & 255;
                one(60, a, 0, 0xD4 + y, 0, up, flags(up, up % 16 == 0 ? 1 : 0, y), 1);
                one(61, a, 0, y, 0, down, flags(down, down % 16 == 15 ? 0 : 1, y), 1);
            }
        }
        for (int r = 0; r < 6; r++) {
            DeskMachine x = Trial.begun(6 + 8 * r, 255, 4 + 8 * r, 5 + 8 * r);
            x.run(2);
            Trial.due("register " + r + " grows", x.register(r), 0);
            Trial.due("flags", x.register(6), 64 + 16 + 4 + 2);
            x.run(1);
            Trial.due("register " + r + " falls", x.register(r), 255);
            Trial.due("flags", x.register(6), 128 + 4 + 2);
        }
        DeskMachine m = Trial.begun(33, 44, 2, 52, 53, 53, 54, 9);
        m.poke(44, 15);
        m.run(2);
        Trial.due("the byte at HL grows", m.peek(44), 16);
        Trial.due("flags", m.register(6), 16 + 2);
        m.run(2);
        Trial.due("the byte at HL falls", m.peek(44), 14);
        m.run(1);
        Trial.due("the byte at HL = n", m.peek(44), 9);
    }

    private static void moves() {
        for (int y = 0; y < 8; y++) {
            for (int z = 0; z < 8; z++) {
                if (y == 6 && z == 6) {
                    continue;
                }
                // B 10, C 11, D 12, E 13, H 1, L 200, A 14, the byte at 456 15
                DeskMachine x = Trial.begun(6, 10, 14, 11, 22, 12, 30, 13, 38, 1, 46, 200, 62, 14, 64 + 8 * y + z);
                x.poke(456, 15);
                int[] want = {10, 11, 12, 13, 1, 200, 15, 14};
                x.run(8);
                want[y] = want[z];
                String what = "register " + y + " = register " + z + ": ";
                for (int r = 0; r < 8; r++) {
                    Trial.due(what + r, r == 6 ? x.peek(456) : x.register(r), want[r]);
                }
                Trial.due(what + "flags", x.register(6), 2);
                Trial.due(what + "PC", x.register(9), 271);
            }
        }
    }

    /** What an instruction leaves in Y is what the next ones take from it. */
    private static void carryIsUsed() {
        int[][] codes = {{55, 63, 0}, {63, 0, 0}, {55, 0, 0}, {214, 1, 0}, {214, 0, 0}, {55, 222, 0}, {198, 1, 0},
            {55, 230, 255}, {55, 238, 0}, {55, 246, 0}, {62, 128, 7}, {62, 1, 15}, {62, 128, 23}, {62, 1, 31}};
        int[] want = {0, 1, 1, 1, 0, 1, 0, 0, 0, 0, 1, 1, 1, 1};
        for (int i = 0; i < codes.length; i++) {
            // behind it MVI A 0, RAL, HALT
            DeskMachine x = Trial.begun(codes[i][0], codes[i][1], codes[i][2], 62, 0, 23, 118);
            x.run(100);
            Trial.due("Y behind row " + i, x.register(7), want[i]);
        }
    }

    private static int pair(DeskMachine x, int p) {
        return p == 3 ? x.register(8) : 256 * x.register(2 * p) + x.register(2 * p + 1);
    }

    private static void pairs() {
        for (int p = 0; p < 4; p++) {
            DeskMachine x = Trial.begun(1 + 16 * p, 255, 255, 3 + 16 * p, 11 + 16 * p, 11 + 16 * p);
            x.run(1);
            Trial.due("pair " + p + " = w", pair(x, p), 65535);
            x.run(1);
            Trial.due("pair " + p + " grows", pair(x, p), 0);
            x.run(1);
            Trial.due("pair " + p + " falls", pair(x, p), 65535);
            x.run(1);
            Trial.due("pair " + p + " falls", pair(x, p), 65534);
            Trial.due("flags", x.register(6), 2);
            int[][] sums = {{0x1234, 0xEDCC}, {0x8000, 0x7FFF}, {0xFFFF, 0xFFFF}, {0, 0}};
            for (int[] s : sums) {
                int second = p == 2 ? s[0] : s[1];
                DeskMachine y = Trial.begun(1 + 16 * p, s[1] & 255, s[1] >> 8, 33, s[0] & 255, s[0] >> 8, 9 + 16 * p);
                y.run(3);
                Trial.due("HL + pair " + p, pair(y, 2), (s[0] + second) & 65535);
                Trial.due("flags of HL + pair " + p, y.register(6), 2 + ((s[0] + second) >> 16));
            }
        }
    }

    private static void addressed() {
        DeskMachine x = Trial.begun(1, 40, 2, 17, 41, 4, 62, 99, 2, 18);
        x.run(5);
        Trial.due("byte at BC = A, modulo 512", x.peek(40), 99);
        Trial.due("byte at DE = A, modulo 512", x.peek(41), 99);
        DeskMachine y = Trial.begun(1, 40, 2, 17, 41, 4, 10, 26);
        y.poke(40, 5);
        y.poke(41, 6);
        y.run(3);
        Trial.due("A = byte at BC", y.register(7), 5);
        y.run(1);
        Trial.due("A = byte at DE", y.register(7), 6);
        DeskMachine z = Trial.begun(33, 52, 18, 34, 255, 1, 42, 254, 255, 62, 7, 50, 60, 254, 58, 254, 1);
        z.run(2);
        Trial.due("word at 511, low", z.peek(511), 52);
        Trial.due("word at 511, high goes round", z.peek(0), 18);
        z.poke(510, 33);
        z.run(1);
        Trial.due("HL = word at 65534", pair(z, 2), 52 * 256 + 33);
        z.run(2);
        Trial.due("byte at w = A", z.peek(60), 7);
        z.run(1);
        Trial.due("A = byte at w", z.register(7), 33);
    }

    private static void nothings() {
        int[] codes = {0, 8, 16, 24, 32, 40, 48, 56, 243, 251};
        for (int code : codes) {
            DeskMachine x = Trial.begun(code, 60);
            x.run(1);
            Trial.due(code + ": PC", x.register(9), 257);
            Trial.due(code + ": SP", x.register(8), 494);
            Trial.due(code + ": A", x.register(7), 0);
        }
        for (int code : new int[] {211, 219}) {
            DeskMachine x = Trial.begun(code, 60);
            x.run(1);
            Trial.due(code + " skips n: PC", x.register(9), 258);
            Trial.due(code + " skips n: A", x.register(7), 0);
        }
    }

    private static void jumpsCallsReturns() {
        int[] bits = {64, 1, 4, 128};
        for (int flags = 0; flags < 256; flags++) {
            if ((flags & 0xD5) != flags) {
                continue;
            }
            for (int c = 0; c < 8; c++) {
                boolean holds = ((flags & bits[c / 2]) != 0) == (c % 2 == 1);
                branch(194 + 8 * c, flags, holds ? 0x1234 : 264, 494);
                branch(196 + 8 * c, flags, holds ? 0x1234 : 264, holds ? 492 : 494);
                DeskMachine x = Trial.begun(1, flags, 0, 197, 241, 192 + 8 * c);
                x.poke(494, 0x78);
                x.poke(495, 0x56);
                x.run(4);
                Trial.due("return if " + c + " with flags " + flags, x.register(9), holds ? 0x5678 : 262);
                Trial.due("SP", x.register(8), holds ? 496 : 494);
            }
        }
        for (int code : new int[] {195, 203}) {
            branch(code, 0, 0x1234, 494);
        }
        for (int code : new int[] {205, 221, 237, 253}) {
            branch(code, 0, 0x1234, 492);
        }
        for (int y = 0; y < 8; y++) {
            DeskMachine x = Trial.begun(199 + 8 * y);
            x.run(1);
            Trial.due("call 8 * " + y, x.register(9), 8 * y);
            Trial.due("pushed", x.peek(492) + 256 * x.peek(493), 257);
        }
        for (int code : new int[] {201, 217}) {
            DeskMachine x = Trial.begun(code);
            x.poke(494, 0x78);
            x.poke(495, 0x56);
            x.run(1);
            Trial.due("return", x.register(9), 0x5678);
            Trial.due("SP", x.register(8), 496);
        }
        DeskMachine x = Trial.begun(33, 5, 2, 233);
        x.run(2);
        Trial.due("PC = HL", x.register(9), 517);
        x.poke(5, 60);
        x.run(1);
        Trial.due("517 is not 5: an instruction", x.register(7), 1);
        Trial.due("PC", x.register(9), 518);
    }

    private static void branch(int code, int flags, int pc, int sp) {
        DeskMachine x = Trial.begun(1, flags, 0, 197, 241, code, 0x34, 0x12);
        x.run(4);
        Trial.due(code + " with flags " + flags + ": PC", x.register(9), pc);
        Trial.due(code + " with flags " + flags + ": SP", x.register(8), sp);
        Trial.due(code + " with flags " + flags + ": flags", x.register(6), flags | 2);
        if (sp == 492) {
            Trial.due(code + " pushed", x.peek(492) + 256 * x.peek(493), 264);
        }
    }

    private static void stack() {
        for (int p = 0; p < 3; p++) {
            DeskMachine x = Trial.begun(1 + 16 * p, 52, 18, 197 + 16 * p, 1 + 16 * p, 0, 0, 193 + 16 * p);
            x.run(2);
            Trial.due("push: low", x.peek(492), 52);
            Trial.due("push: high", x.peek(493), 18);
            Trial.due("push: SP", x.register(8), 492);
            x.run(2);
            Trial.due("pop", pair(x, p), 18 * 256 + 52);
            Trial.due("pop: SP", x.register(8), 494);
        }
        DeskMachine x = Trial.begun(33, 52, 18, 227, 235, 249);
        Trial.pokes(x, 494, 0x78, 0x56);
        x.run(2);
        Trial.due("HL and the word at SP", pair(x, 2), 0x5678);
        Trial.due("low", x.peek(494), 52);
        Trial.due("high", x.peek(495), 18);
        Trial.due("SP", x.register(8), 494);
        x.run(1);
        Trial.due("DE and HL", pair(x, 1), 0x5678);
        Trial.due("DE and HL", pair(x, 2), 0);
        x.run(1);
        Trial.due("SP = HL", x.register(8), 0);
        DeskMachine y = Trial.begun(49, 1, 0, 1, 52, 18, 197, 209, 209);
        y.run(3);
        Trial.due("SP goes round at a push", y.register(8), 65535);
        Trial.due("low at 65535", y.peek(511), 52);
        Trial.due("high at 0", y.peek(0), 18);
        y.run(1);
        Trial.due("SP goes round at a pop", y.register(8), 1);
        Trial.due("popped", pair(y, 1), 18 * 256 + 52);
    }

    private static void wrapping() {
        DeskMachine x = Trial.begun(195, 255, 3);
        Trial.pokes(x, 511, 62);
        Trial.pokes(x, 0, 88);
        x.run(2);
        Trial.due("n from the next address, round", x.register(7), 88);
        Trial.due("PC is a word", x.register(9), 1025);
        DeskMachine y = Trial.begun(195, 255, 255);
        Trial.pokes(y, 511, 62);
        Trial.pokes(y, 0, 88);
        y.run(2);
        Trial.due("n across 65535", y.register(7), 88);
        Trial.due("PC across 65535", y.register(9), 1);
        Trial.due("it runs", y.about(0), 1);
    }
}
