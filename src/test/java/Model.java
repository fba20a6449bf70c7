/** A second machine, written from the document once more and in another way, to compare long runs with. */
final class Model {
    final int[] mem = new int[512];
    final int[] disk = new int[512];
    final java.util.ArrayDeque<Integer> keys = new java.util.ArrayDeque<>();
    final StringBuilder out = new StringBuilder();
    String line = "";
    int state = 0;
    int steps = 0;
    int buffer = 128;
    int found = -1;
    boolean exhausted = false;
    int a, b, c, d, e, h, l, f = 2, sp, pc;

    Model() {
        for (int i = 0; i < 8; i++) {
            disk[16 * i] = 229;
        }
    }

    int register(int r) {
        int[] all = {b, c, d, e, h, l, f, a, sp, pc, buffer};
        return r < 0 || r > 10 ? -1 : all[r];
    }

    int shown(int i) {
        return i < 0 || i > 63 || i >= out.length() ? -1 : out.charAt(out.length() - 1 - i);
    }

    int about(int what) {
        int[] all = {state, keys.size(), out.length(), steps, line.length()};
        return what < 0 || what > 4 ? -1 : all[what];
    }

    int run(int n) {
        int done = 0;
        while (done < n) {
            if (state == 0) {
                if (keys.isEmpty()) {
                    break;
                }
                desk(keys.poll());
            } else if (pc == 5 && c == 1 && keys.isEmpty()) {
                state = 2;
                break;
            } else {
                state = 1;
                if (pc == 5) {
                    system();
                } else {
                    instruction();
                }
                if (pc == 0) {
                    state = 0;
                }
            }
            done++;
        }
        steps += done;
        return done;
    }

    // ---- the processor

    private int rd(int at) {
        return mem[Math.floorMod(at, 512)];
    }

    private void wr(int at, int v) {
        mem[Math.floorMod(at, 512)] = v % 256;
    }

    private int hl() {
        return h * 256 + l;
    }

    private int de() {
        return d * 256 + e;
    }

    private int bc() {
        return b * 256 + c;
    }

    private int fetch() {
        int v = rd(pc);
        pc = (pc + 1) % 65536;
        return v;
    }

    private int fetchWord() {
        int low = fetch();
        int high = fetch();
        return high * 256 + low;
    }

    private int reg(int r) {
        return r == 6 ? rd(hl()) : register(r);
    }

    private void reg(int r, int v) {
        switch (r) {
            case 0 -> b = v;
            case 1 -> c = v;
            case 2 -> d = v;
            case 3 -> e = v;
            case 4 -> h = v;
            case 5 -> l = v;
            case 6 -> wr(hl(), v);
            default -> a = v;
        }
    }

    private int rp(int p) {
        return new int[] {bc(), de(), hl(), sp}[p];
    }

    private void rp(int p, int v) {
        int w = Math.floorMod(v, 65536);
        if (p == 3) {
            sp = w;
        } else {
            reg(2 * p, w / 256);
            reg(2 * p + 1, w % 256);
        }
    }

    private void push(int w) {
        sp = Math.floorMod(sp - 2, 65536);
        wr(sp, w % 256);
        wr(sp + 1, w / 256);
    }

    private int pop() {
        int w = rd(sp) + 256 * rd(sp + 1);
        sp = (sp + 2) % 65536;
        return w;
    }

    private boolean is(int bit) {
        return (f & bit) != 0;
    }

    private void set(int bit, boolean on) {
        f = on ? f | bit : f & ~bit;
    }

    private void szp(int v) {
        set(128, v > 127);
        set(64, v == 0);
        boolean even = true;
        for (int w = v; w > 0; w /= 2) {
            even ^= w % 2 == 1;
        }
        set(4, even);
    }

    private void add(int v, int in) {
        set(16, a % 16 + v % 16 + in > 15);
        int sum = a + v + in;
        set(1, sum > 255);
        a = sum % 256;
        szp(a);
    }

    private void sub(int v, int in) {
        add(255 - v, 1 - in);
        set(1, !is(1));
    }

    private void alu(int y, int v) {
        int old = a;
        int carry = is(1) ? 1 : 0;
        if (y == 0) {
            add(v, 0);
        } else if (y == 1) {
            add(v, carry);
        } else if (y == 2) {
            sub(v, 0);
        } else if (y == 3) {
            sub(v, carry);
        } else if (y == 7) {
            sub(v, 0);
            a = old;
        } else {
            a = y == 4 ? a & v : y == 5 ? a ^ v : a | v;
            set(1, false);
            set(16, y == 4 && ((old & 8) != 0 || (v & 8) != 0));
            szp(a);
        }
    }

    private boolean cond(int y) {
        int bit = new int[] {64, 64, 1, 1, 4, 4, 128, 128}[y];
        return is(bit) == (y % 2 == 1);
    }

    private void call(int to) {
        push(pc);
        pc = to;
    }

    private void instruction() {
        int op = fetch();
        int y = op / 8 % 8;
        int z = op % 8;
        if (op == 0x76) {
            state = 0;
        } else if (op < 0x40) {
            low(op, y, z);
        } else if (op < 0x80) {
            reg(y, reg(z));
        } else if (op < 0xC0) {
            alu(y, reg(z));
        } else {
            high(op, y, z);
        }
    }

    private void low(int op, int y, int z) {
        int w;
        switch (op) {
            case 0x01, 0x11, 0x21, 0x31 -> rp(y / 2, fetchWord());
            case 0x09, 0x19, 0x29, 0x39 -> {
                w = hl() + rp(y / 2);
                set(1, w > 65535);
                rp(2, w);
            }
            case 0x02 -> wr(bc(), a);
            case 0x0A -> a = rd(bc());
            case 0x12 -> wr(de(), a);
            case 0x1A -> a = rd(de());
            case 0x22 -> {
                w = fetchWord();
                wr(w, l);
                wr(w + 1, h);
            }
            case 0x2A -> {
                w = fetchWord();
                l = rd(w);
                h = rd(w + 1);
            }
            case 0x32 -> wr(fetchWord(), a);
            case 0x3A -> a = rd(fetchWord());
            case 0x03, 0x13, 0x23, 0x33 -> rp(y / 2, rp(y / 2) + 1);
            case 0x0B, 0x1B, 0x2B, 0x3B -> rp(y / 2, rp(y / 2) - 1);
            case 0x07 -> {
                a = a * 2 % 256 + a / 128;
                set(1, a % 2 == 1);
            }
            case 0x0F -> {
                a = a / 2 + a % 2 * 128;
                set(1, a > 127);
            }
            case 0x17 -> {
                w = a * 2 + (is(1) ? 1 : 0);
                set(1, w > 255);
                a = w % 256;
            }
            case 0x1F -> {
                w = a + (is(1) ? 256 : 0);
                set(1, w % 2 == 1);
                a = w / 2;
            }
            case 0x27 -> {
                int low = a % 16 > 9 || is(16) ? 6 : 0;
                boolean up = a > 153 || is(1);
                set(16, a % 16 + low > 15);
                a = (a + low + (up ? 96 : 0)) % 256;
                set(1, up);
                szp(a);
            }
            case 0x2F -> a = 255 - a;
            case 0x37 -> set(1, true);
            case 0x3F -> set(1, !is(1));
            default -> {
                if (z == 4) {
                    reg(y, (reg(y) + 1) % 256);
                    szp(reg(y));
                    set(16, reg(y) % 16 == 0);
                } else if (z == 5) {
                    reg(y, (reg(y) + 255) % 256);
                    szp(reg(y));
                    set(16, reg(y) % 16 != 15);
                } else if (z == 6) {
                    reg(y, fetch());
                }
            }
        }
    }

    private void high(int op, int y, int z) {
        int w;
        switch (op) {
            case 0xC1, 0xD1, 0xE1 -> rp(y / 2, pop());
            case 0xF1 -> {
                w = pop();
                a = w / 256;
                f = w & 0xD5 | 2;
            }
            case 0xC5, 0xD5, 0xE5 -> push(rp(y / 2));
            case 0xF5 -> push(a * 256 + f);
            case 0xC9, 0xD9 -> pc = pop();
            case 0xE9 -> pc = hl();
            case 0xF9 -> sp = hl();
            case 0xC3, 0xCB -> pc = fetchWord();
            case 0xD3, 0xDB -> fetch();
            case 0xE3 -> {
                w = rd(sp) + 256 * rd(sp + 1);
                wr(sp, l);
                wr(sp + 1, h);
                rp(2, w);
            }
            case 0xEB -> {
                w = hl();
                rp(2, de());
                rp(1, w);
            }
            case 0xF3, 0xFB -> { }
            case 0xCD, 0xDD, 0xED, 0xFD -> call(fetchWord());
            default -> {
                if (z == 0 && cond(y)) {
                    pc = pop();
                } else if (z == 2 || z == 4) {
                    w = fetchWord();
                    if (cond(y) && z == 2) {
                        pc = w;
                    } else if (cond(y)) {
                        call(w);
                    }
                } else if (z == 6) {
                    alu(y, fetch());
                } else if (z == 7) {
                    call(8 * y);
                }
            }
        }
    }

    // ---- files

    private String nameAt(int at) {
        String s = "";
        for (int i = 0; i < 4; i++) {
            s += (char) rd(at + i);
        }
        return s;
    }

    private String nameOf(int entry) {
        String s = "";
        for (int i = 0; i < 4; i++) {
            s += (char) disk[16 * entry + 1 + i];
        }
        return s;
    }

    private void name(int entry, String name) {
        for (int i = 0; i < 4; i++) {
            disk[16 * entry + 1 + i] = name.charAt(i);
        }
    }

    private int look(String name, boolean marks, int from) {
        for (int entry = from; entry < 8; entry++) {
            String other = nameOf(entry);
            boolean fits = disk[16 * entry] != 229;
            for (int i = 0; i < 4; i++) {
                fits &= name.charAt(i) == other.charAt(i) || marks && name.charAt(i) == '?';
            }
            if (fits) {
                return entry;
            }
        }
        return 255;
    }

    private int drop(String name) {
        int answer = 255;
        for (int entry = look(name, true, 0); entry != 255; entry = look(name, true, entry + 1)) {
            disk[16 * entry] = 229;
            answer = 0;
        }
        return answer;
    }

    private int create(String name) {
        for (int entry = 0; entry < 8; entry++) {
            if (disk[16 * entry] == 229) {
                java.util.Arrays.fill(disk, 16 * entry, 16 * entry + 16, 0);
                name(entry, name);
                return entry;
            }
        }
        return 255;
    }

    private boolean used(int block) {
        for (int entry = 0; entry < 8; entry++) {
            for (int i = 0; i < 10; i++) {
                if (disk[16 * entry] != 229 && i < disk[16 * entry + 5] && disk[16 * entry + 6 + i] == block) {
                    return true;
                }
            }
        }
        return false;
    }

    private boolean own(int block) {
        for (int i = 0; i < 10; i++) {
            if (i < rd(de() + 5) && rd(de() + 6 + i) == block) {
                return true;
            }
        }
        return false;
    }

    private static boolean data(int block) {
        return block > 7 && block < 32;
    }

    private void system() {
        int fcb = de();
        int answer = 0;
        int n = rd(fcb + 16);
        switch (c) {
            case 0 -> {
                state = 0;
                return;
            }
            case 1 -> answer = keys.poll();
            case 2 -> out.append((char) e);
            case 9 -> {
                for (int i = 0; i < 64 && rd(fcb + i) != 36; i++) {
                    out.append((char) rd(fcb + i));
                }
            }
            case 11 -> answer = keys.isEmpty() ? 0 : 255;
            case 26 -> buffer = fcb;
            case 15 -> {
                answer = look(nameAt(fcb + 1), true, 0);
                for (int i = 1; i < 16 && answer != 255; i++) {
                    wr(fcb + i, disk[16 * answer + i]);
                }
            }
            case 16 -> {
                answer = look(nameAt(fcb + 1), false, 0);
                for (int i = 5; i < 16 && answer != 255; i++) {
                    disk[16 * answer + i] = rd(fcb + i);
                }
            }
            case 17, 18 -> answer = search(fcb);
            case 19 -> answer = drop(nameAt(fcb + 1));
            case 20 -> {
                answer = 1;
                if (n < 10 && n < rd(fcb + 5) && data(rd(fcb + 6 + n))) {
                    answer = 0;
                    int block = rd(fcb + 6 + n);
                    for (int i = 0; i < 16; i++) {
                        wr(buffer + i, disk[16 * block + i]);
                    }
                    wr(fcb + 16, n + 1);
                }
            }
            case 21 -> answer = n > 9 ? 1 : put(fcb, n);
            case 22 -> {
                answer = create(nameAt(fcb + 1));
                for (int i = 5; i < 16 && answer != 255; i++) {
                    wr(fcb + i, 0);
                }
            }
            case 23 -> {
                answer = look(nameAt(fcb + 1), false, 0);
                if (answer != 255) {
                    name(answer, nameAt(fcb + 17));
                    answer = 0;
                }
            }
            default -> { }
        }
        a = answer;
        pc = pop();
    }

    private int search(int fcb) {
        int answer = 255;
        if (c == 17) {
            answer = look(nameAt(fcb + 1), true, 0);
        } else if (!exhausted) {
            answer = look(nameAt(fcb + 1), true, found + 1);
        }
        exhausted = answer == 255;
        if (!exhausted) {
            found = answer;
            for (int i = 0; i < 16; i++) {
                wr(buffer + i, disk[16 * answer + i]);
            }
        }
        return answer;
    }

    private int put(int fcb, int n) {
        if (n >= rd(fcb + 5) || !data(rd(fcb + 6 + n))) {
            int block = 8;
            while (block < 32 && (used(block) || own(block))) {
                block++;
            }
            if (block == 32) {
                return 2;
            }
            wr(fcb + 6 + n, block);
        }
        int block = rd(fcb + 6 + n);
        for (int i = 0; i < 16; i++) {
            disk[16 * block + i] = rd(buffer + i);
        }
        wr(fcb + 5, Math.max(rd(fcb + 5), n + 1));
        wr(fcb + 16, n + 1);
        return 0;
    }

    // ---- the desk

    private void desk(int k) {
        if (k != 13) {
            if (k > 31 && k < 127 && line.length() < 20) {
                line += (char) k;
            }
            return;
        }
        String[] words = java.util.Arrays.stream(line.split(" ")).filter(s -> !s.isEmpty()).toArray(String[]::new);
        line = "";
        boolean fine = words.length == 0 || command(words);
        if (!fine) {
            out.append('?');
        }
        out.append('\r');
        if (state == 0) {
            out.append('>');
        }
    }

    private static String four(String word) {
        return (word + "    ").substring(0, 4);
    }

    private boolean command(String[] words) {
        int entry;
        switch (words[0]) {
            case "LIST":
                for (int i = 0; i < 8; i++) {
                    if (disk[16 * i] != 229) {
                        out.append(nameOf(i)).append(' ');
                    }
                }
                return true;
            case "SHOW":
                entry = words.length < 2 ? 255 : look(four(words[1]), false, 0);
                return entry != 255 && show(entry);
            case "DROP":
                if (words.length > 1) {
                    drop(four(words[1]));
                }
                return words.length > 1;
            case "CALL":
                entry = words.length < 3 ? 255 : look(four(words[1]), false, 0);
                if (entry != 255) {
                    name(entry, four(words[2]));
                }
                return entry != 255;
            case "SAVE":
                return words.length > 2 && words[1].matches("[0-9]") && save(words[1].charAt(0) - 48, four(words[2]));
            default:
                return load(look(four(words[0]), false, 0));
        }
    }

    private boolean show(int entry) {
        String all = "";
        for (int i = 0; i < 10 && i < disk[16 * entry + 5]; i++) {
            int block = disk[16 * entry + 6 + i];
            for (int j = 0; j < 16 && data(block); j++) {
                all += (char) disk[16 * block + j];
            }
        }
        int end = all.indexOf((char) 26);
        out.append(end < 0 ? all : all.substring(0, end));
        return true;
    }

    private boolean save(int count, String name) {
        int old = look(name, false, 0);
        if (old != 255) {
            disk[16 * old] = 229;
        }
        int entry = create(name);
        if (entry == 255) {
            return false;
        }
        for (int i = 0; i < count; i++) {
            int block = 8;
            while (block < 32 && used(block)) {
                block++;
            }
            if (block == 32) {
                return false;
            }
            System.arraycopy(mem, 256 + 16 * i, disk, 16 * block, 16);
            disk[16 * entry + 6 + i] = block;
            disk[16 * entry + 5]++;
        }
        return true;
    }

    private boolean load(int entry) {
        if (entry == 255) {
            return false;
        }
        for (int i = 0; i < 10 && i < disk[16 * entry + 5]; i++) {
            int block = disk[16 * entry + 6 + i];
            if (data(block)) {
                System.arraycopy(disk, 16 * block, mem, 256 + 16 * i, 16);
            }
        }
        a = b = c = d = e = h = l = 0;
        f = 2;
        sp = 496;
        push(0);
        pc = 256;
        buffer = 128;
        state = 1;
        return true;
    }
}
