/** A desk machine of bytes, as DOC.md promises it: processor, disk, system calls and typed commands. */
public final class DeskMachine {
    public static final int NONE = -1;

    private static final int AT_DESK = 0;
    private static final int RUNNING = 1;
    private static final int WAITING = 2;

    private static final int MOST_STEPS = 1000;
    private static final int SYSTEM_ADDRESS = 5;
    private static final int PROGRAM_ADDRESS = 256;
    private static final int FIRST_BUFFER = 128;

    private static final int TEXT_END = 36;
    private static final int LONGEST_TEXT = 64;

    private static final int NAME_LENGTH = 4;
    private static final int NAME_AT = 1;
    private static final int COUNT_AT = 5;
    private static final int RECORDS_AT = 6;
    private static final int NEXT_AT = 16;
    private static final int NEW_NAME_AT = 17;
    private static final int MOST_RECORDS = 10;
    private static final int NOT_FOUND = 255;

    private static final int CALL_LEAVE = 0;
    private static final int CALL_KEY = 1;
    private static final int CALL_SHOW = 2;
    private static final int CALL_SHOW_TEXT = 9;
    private static final int CALL_IS_KEY = 11;
    private static final int CALL_BUFFER = 26;

    private final Memory memory;
    private final Processor processor;
    private final Disk store;
    private final KeyQueue keys;
    private final Screen screen;
    private final FileCalls files;
    private final Desk desk;
    private int mode;
    private int steps;

    public DeskMachine() {
        memory = new Memory();
        processor = new Processor(memory);
        store = new Disk();
        keys = new KeyQueue();
        screen = new Screen();
        files = new FileCalls(memory, store);
        desk = new Desk(memory, store, screen);
        mode = AT_DESK;
        steps = 0;
    }

    public int key(int k) throws IllegalArgumentException, IllegalStateException {
        if (!isByte(k)) {
            throw new IllegalArgumentException();
        }
        if (keys.isFull()) {
            throw new IllegalStateException();
        }
        keys.add(k);
        return keys.size();
    }

    public int run(int n) throws IllegalArgumentException {
        if (n < 1 || n > MOST_STEPS) {
            throw new IllegalArgumentException();
        }
        for (int done = 0; done < n; done++) {
            boolean stepped = mode == AT_DESK ? stepAtDesk() : stepOfProgram();
            if (!stepped) {
                return done;
            }
            steps++;
        }
        return n;
    }

    public boolean poke(int a, int v) throws IllegalArgumentException {
        if (!isAddress(a) || !isByte(v)) {
            throw new IllegalArgumentException();
        }
        memory.put(a, v);
        return true;
    }

    public int peek(int a) throws IllegalArgumentException {
        if (!isAddress(a)) {
            throw new IllegalArgumentException();
        }
        return memory.get(a);
    }

    public int disk(int b, int i) throws IllegalArgumentException {
        if (!isPlaceOnDisk(b, i)) {
            throw new IllegalArgumentException();
        }
        return store.get(b, i);
    }

    public boolean burn(int b, int i, int v) throws IllegalArgumentException {
        if (!isPlaceOnDisk(b, i) || !isByte(v)) {
            throw new IllegalArgumentException();
        }
        store.put(b, i, v);
        return true;
    }

    public int shown(int i) {
        return screen.last(i);
    }

    public int register(int r) {
        switch (r) {
            case Processor.FLAGS:
                return processor.flags();
            case 8:
                return processor.sp;
            case 9:
                return processor.pc;
            case 10:
                return files.buffer;
            default:
                return r >= 0 && r < 8 ? processor.registers[r] : NONE;
        }
    }

    public int about(int what) {
        switch (what) {
            case 0:
                return mode;
            case 1:
                return keys.size();
            case 2:
                return screen.total;
            case 3:
                return steps;
            case 4:
                return desk.length;
            default:
                return NONE;
        }
    }

    private static boolean isByte(int v) {
        return v >= 0 && v <= 255;
    }

    private static boolean isAddress(int a) {
        return a >= 0 && a < Memory.SIZE;
    }

    private static boolean isPlaceOnDisk(int b, int i) {
        return b >= 0 && b < Disk.BLOCKS && i >= 0 && i < Disk.BLOCK_SIZE;
    }

    private boolean stepAtDesk() {
        if (keys.isEmpty()) {
            return false;
        }
        int k = keys.take();
        if (k != Desk.LINE_END) {
            desk.add(k);
        } else if (desk.endLine()) {
            processor.start();
            files.buffer = FIRST_BUFFER;
            mode = RUNNING;
        }
        return true;
    }

    private boolean stepOfProgram() {
        if (processor.pc != SYSTEM_ADDRESS) {
            mode = processor.step() ? RUNNING : AT_DESK;
        } else if (processor.registers[Processor.C] == CALL_KEY && keys.isEmpty()) {
            mode = WAITING;
            return false;
        } else {
            callSystem();
        }
        if (processor.pc == 0) {
            mode = AT_DESK;
        }
        return true;
    }

    private void callSystem() {
        int call = processor.registers[Processor.C];
        if (call == CALL_LEAVE) {
            mode = AT_DESK;
            return;
        }
        mode = RUNNING;
        int de = processor.pair(Processor.DE);
        boolean ofFiles = call >= FileCalls.OPEN && call <= FileCalls.RENAME;
        processor.registers[Processor.A] = ofFiles ? files.answer(call, de) : answerCall(call, de);
        processor.pc = processor.pop();
    }

    private int answerCall(int call, int de) {
        switch (call) {
            case CALL_KEY:
                return keys.take();
            case CALL_SHOW:
                screen.show(de & 255);
                return 0;
            case CALL_SHOW_TEXT:
                showText(de);
                return 0;
            case CALL_IS_KEY:
                return keys.isEmpty() ? 0 : 255;
            case CALL_BUFFER:
                files.buffer = de;
                return 0;
            default:
                return 0;
        }
    }

    private void showText(int address) {
        for (int i = 0; i < LONGEST_TEXT; i++) {
            int character = memory.get(address + i);
            if (character == TEXT_END) {
                return;
            }
            screen.show(character);
        }
    }

    private static final class Memory {
        static final int SIZE = 512;

        private final int[] bytes;

        Memory() {
            bytes = new int[SIZE];
        }

        int get(int address) {
            return bytes[address & (SIZE - 1)];
        }

        void put(int address, int value) {
            bytes[address & (SIZE - 1)] = value & 255;
        }

        int word(int address) {
            return bytes[address & (SIZE - 1)] | bytes[(address + 1) & (SIZE - 1)] << 8;
        }

        void putWord(int address, int value) {
            bytes[address & (SIZE - 1)] = value & 255;
            bytes[(address + 1) & (SIZE - 1)] = (value >> 8) & 255;
        }
    }

    private static final class KeyQueue {
        private static final int ROOM = 40;

        private final int[] ring;
        private int first;
        private int count;

        KeyQueue() {
            ring = new int[ROOM];
            first = 0;
            count = 0;
        }

        int size() {
            return count;
        }

        boolean isEmpty() {
            return count == 0;
        }

        boolean isFull() {
            return count == ROOM;
        }

        void add(int k) {
            ring[(first + count) % ROOM] = k;
            count++;
        }

        int take() {
            int k = ring[first];
            first = (first + 1) % ROOM;
            count--;
            return k;
        }
    }

    private static final class Screen {
        private static final int KEPT = 64;

        private final int[] ring;
        int total;

        Screen() {
            ring = new int[KEPT];
            total = 0;
        }

        void show(int character) {
            ring[total & (KEPT - 1)] = character;
            total++;
        }

        int last(int i) {
            if (i < 0 || i >= KEPT || i >= total) {
                return NONE;
            }
            return ring[(total - 1 - i) & (KEPT - 1)];
        }
    }

    private static final class Processor {
        static final int C = 1;
        static final int AT_HL = 6;
        static final int FLAGS = 6;
        static final int A = 7;

        static final int DE = 1;
        static final int HL = 2;
        static final int SP = 3;

        private static final int HALT = 118;
        private static final int STACK_ADDRESS = 496;

        private final Memory memory;
        // Place 6 is never used: 6 stands for the byte at HL.
        final int[] registers;
        int sp;
        int pc;
        private int sign;
        private int zero;
        private int half;
        private int parity;
        private int carry;

        Processor(Memory memory) {
            this.memory = memory;
            registers = new int[8];
        }

        void start() {
            for (int r = 0; r < 8; r++) {
                registers[r] = 0;
            }
            setFlags(0);
            sp = STACK_ADDRESS;
            push(0);
            pc = PROGRAM_ADDRESS;
        }

        // Answers whether the program goes on, since its end is the machine's affair.
        boolean step() {
            int code = nextByte();
            if (code == HALT) {
                return false;
            }
            int y = (code >> 3) & 7;
            int z = code & 7;
            switch (code >> 6) {
                case 0:
                    moveOrCount(y, z);
                    break;
                case 1:
                    put(y, get(z));
                    break;
                case 2:
                    combine(y, get(z));
                    break;
                default:
                    if (z == 6) {
                        combine(y, nextByte());
                    } else {
                        branchOrStack(y, z);
                    }
                    break;
            }
            return true;
        }

        int flags() {
            return sign << 7 | zero << 6 | half << 4 | parity << 2 | 2 | carry;
        }

        int pair(int p) {
            return p == SP ? sp : registers[2 * p] << 8 | registers[2 * p + 1];
        }

        int pop() {
            int word = memory.word(sp);
            sp = (sp + 2) & 65535;
            return word;
        }

        private void push(int word) {
            sp = (sp - 2) & 65535;
            memory.putWord(sp, word);
        }

        private void setFlags(int flags) {
            sign = (flags >> 7) & 1;
            zero = (flags >> 6) & 1;
            half = (flags >> 4) & 1;
            parity = (flags >> 2) & 1;
            carry = flags & 1;
        }

        private void setPair(int p, int word) {
            if (p == SP) {
                sp = word & 65535;
            } else {
                registers[2 * p] = (word >> 8) & 255;
                registers[2 * p + 1] = word & 255;
            }
        }

        private int get(int r) {
            return r == AT_HL ? memory.get(pair(HL)) : registers[r];
        }

        private void put(int r, int value) {
            if (r == AT_HL) {
                memory.put(pair(HL), value);
            } else {
                registers[r] = value;
            }
        }

        private int nextByte() {
            int value = memory.get(pc);
            pc = (pc + 1) & 65535;
            return value;
        }

        private int nextWord() {
            int low = nextByte();
            return low | nextByte() << 8;
        }

        private void moveOrCount(int y, int z) {
            switch (z) {
                case 0:
                    break;
                case 1:
                    if ((y & 1) == 0) {
                        setPair(y >> 1, nextWord());
                    } else {
                        addToHL(pair(y >> 1));
                    }
                    break;
                case 2:
                    moveByAddress(y);
                    break;
                case 3:
                    setPair(y >> 1, pair(y >> 1) + ((y & 1) == 0 ? 1 : -1));
                    break;
                case 4:
                    grow(y);
                    break;
                case 5:
                    fall(y);
                    break;
                case 6:
                    put(y, nextByte());
                    break;
                default:
                    changeA(y);
                    break;
            }
        }

        private void addToHL(int word) {
            int sum = pair(HL) + word;
            setPair(HL, sum);
            carry = sum >> 16;
        }

        private void moveByAddress(int y) {
            switch (y) {
                case 0:
                case 2:
                    memory.put(pair(y >> 1), registers[A]);
                    break;
                case 1:
                case 3:
                    registers[A] = memory.get(pair(y >> 1));
                    break;
                case 4:
                    memory.putWord(nextWord(), pair(HL));
                    break;
                case 5:
                    setPair(HL, memory.word(nextWord()));
                    break;
                case 6:
                    memory.put(nextWord(), registers[A]);
                    break;
                default:
                    registers[A] = memory.get(nextWord());
                    break;
            }
        }

        private void grow(int r) {
            int result = (get(r) + 1) & 255;
            put(r, result);
            judge(result);
            half = (result & 15) == 0 ? 1 : 0;
        }

        private void fall(int r) {
            int result = (get(r) - 1) & 255;
            put(r, result);
            judge(result);
            half = (result & 15) == 15 ? 0 : 1;
        }

        private void judge(int result) {
            sign = result >> 7;
            zero = result == 0 ? 1 : 0;
            parity = 1 - (Integer.bitCount(result) & 1);
        }

        private void changeA(int y) {
            switch (y) {
                case 0:
                    turnLeft(registers[A] >> 7);
                    break;
                case 1:
                    turnRight(registers[A] & 1);
                    break;
                case 2:
                    turnLeft(carry);
                    break;
                case 3:
                    turnRight(carry);
                    break;
                case 4:
                    adjust();
                    break;
                case 5:
                    registers[A] = 255 - registers[A];
                    break;
                case 6:
                    carry = 1;
                    break;
                default:
                    carry = 1 - carry;
                    break;
            }
        }

        private void turnLeft(int incoming) {
            int a = registers[A];
            registers[A] = (a << 1) & 255 | incoming;
            carry = a >> 7;
        }

        private void turnRight(int incoming) {
            int a = registers[A];
            registers[A] = a >> 1 | incoming << 7;
            carry = a & 1;
        }

        private void adjust() {
            int a = registers[A];
            int more = (a & 15) > 9 || half == 1 ? 6 : 0;
            half = ((a & 15) + more) >> 4;
            if (a > 153 || carry == 1) {
                more += 96;
                carry = 1;
            }
            registers[A] = (a + more) & 255;
            judge(registers[A]);
        }

        private void combine(int y, int second) {
            switch (y) {
                case 0:
                    registers[A] = plus(second, 0);
                    break;
                case 1:
                    registers[A] = plus(second, carry);
                    break;
                case 2:
                    registers[A] = minus(second, 0);
                    break;
                case 3:
                    registers[A] = minus(second, carry);
                    break;
                case 4:
                    half = ((registers[A] | second) >> 3) & 1;
                    setBits(registers[A] & second);
                    break;
                case 5:
                    half = 0;
                    setBits(registers[A] ^ second);
                    break;
                case 6:
                    half = 0;
                    setBits(registers[A] | second);
                    break;
                default:
                    minus(second, 0);
                    break;
            }
        }

        private int plus(int second, int incoming) {
            int a = registers[A];
            int sum = a + second + incoming;
            half = ((a & 15) + (second & 15) + incoming) >> 4;
            carry = sum >> 8;
            judge(sum & 255);
            return sum & 255;
        }

        private int minus(int second, int borrow) {
            int result = plus(255 - second, 1 - borrow);
            carry = 1 - carry;
            return result;
        }

        private void setBits(int result) {
            registers[A] = result;
            carry = 0;
            judge(result);
        }

        private void branchOrStack(int y, int z) {
            switch (z) {
                case 0:
                    if (holds(y)) {
                        pc = pop();
                    }
                    break;
                case 1:
                    popOrReturn(y);
                    break;
                case 2:
                    goTo(nextWord(), holds(y));
                    break;
                case 3:
                    goOrExchange(y);
                    break;
                case 4:
                    callTo(nextWord(), holds(y));
                    break;
                case 5:
                    pushOrCall(y);
                    break;
                default:
                    callTo(8 * y, true);
                    break;
            }
        }

        private boolean holds(int condition) {
            int wanted = condition & 1;
            switch (condition >> 1) {
                case 0:
                    return zero == wanted;
                case 1:
                    return carry == wanted;
                case 2:
                    return parity == wanted;
                default:
                    return sign == wanted;
            }
        }

        private void goTo(int word, boolean wanted) {
            if (wanted) {
                pc = word;
            }
        }

        private void callTo(int word, boolean wanted) {
            if (wanted) {
                push(pc);
                pc = word;
            }
        }

        private void popOrReturn(int y) {
            switch (y) {
                case 1:
                case 3:
                    pc = pop();
                    break;
                case 5:
                    pc = pair(HL);
                    break;
                case 6:
                    int word = pop();
                    registers[A] = word >> 8;
                    setFlags(word);
                    break;
                case 7:
                    sp = pair(HL);
                    break;
                default:
                    setPair(y >> 1, pop());
                    break;
            }
        }

        private void goOrExchange(int y) {
            switch (y) {
                case 0:
                case 1:
                    goTo(nextWord(), true);
                    break;
                case 2:
                case 3:
                    nextByte();
                    break;
                case 4:
                    int word = memory.word(sp);
                    memory.putWord(sp, pair(HL));
                    setPair(HL, word);
                    break;
                case 5:
                    int de = pair(DE);
                    setPair(DE, pair(HL));
                    setPair(HL, de);
                    break;
                default:
                    break;
            }
        }

        private void pushOrCall(int y) {
            if ((y & 1) == 1) {
                callTo(nextWord(), true);
            } else if (y == 6) {
                push(registers[A] << 8 | flags());
            } else {
                push(pair(y >> 1));
            }
        }
    }

    private static final class Disk {
        static final int BLOCKS = 32;
        static final int BLOCK_SIZE = 16;
        static final int ENTRIES = 8;

        private static final int FREE = 229;
        private static final int ANY = 63;

        private final int[] bytes;
        // A place for each byte, since entries may tell of blocks that are not there.
        private final boolean[] taken;

        Disk() {
            bytes = new int[BLOCKS * BLOCK_SIZE];
            taken = new boolean[256];
            for (int entry = 0; entry < ENTRIES; entry++) {
                bytes[entry * BLOCK_SIZE] = FREE;
            }
        }

        int get(int block, int i) {
            return bytes[(block & (BLOCKS - 1)) * BLOCK_SIZE + (i & (BLOCK_SIZE - 1))];
        }

        void put(int block, int i, int value) {
            bytes[(block & (BLOCKS - 1)) * BLOCK_SIZE + (i & (BLOCK_SIZE - 1))] = value;
        }

        boolean isFree(int entry) {
            return bytes[(entry & (ENTRIES - 1)) * BLOCK_SIZE] == FREE;
        }

        void free(int entry) {
            put(entry, 0, FREE);
        }

        static boolean isForRecords(int block) {
            return block >= ENTRIES && block < BLOCKS;
        }

        int recordsOf(int entry) {
            int count = bytes[(entry & (ENTRIES - 1)) * BLOCK_SIZE + COUNT_AT];
            return count < MOST_RECORDS ? count : MOST_RECORDS;
        }

        int findExact(int[] name) {
            for (int entry = 0; entry < ENTRIES; entry++) {
                if (matches(entry, name, false)) {
                    return entry;
                }
            }
            return NONE;
        }

        int findFitting(int[] name, int from) {
            for (int entry = from; entry < ENTRIES; entry++) {
                if (matches(entry, name, true)) {
                    return entry;
                }
            }
            return NONE;
        }

        private boolean matches(int entry, int[] name, boolean anyMark) {
            int start = (entry & (ENTRIES - 1)) * BLOCK_SIZE;
            if (bytes[start] == FREE) {
                return false;
            }
            for (int i = 0; i < NAME_LENGTH; i++) {
                if (name[i] != bytes[start + NAME_AT + i] && !(anyMark && name[i] == ANY)) {
                    return false;
                }
            }
            return true;
        }

        int make(int[] name) {
            for (int entry = 0; entry < ENTRIES; entry++) {
                if (isFree(entry)) {
                    for (int i = 0; i < BLOCK_SIZE; i++) {
                        put(entry, i, 0);
                    }
                    rename(entry, name);
                    return entry;
                }
            }
            return NONE;
        }

        void rename(int entry, int[] name) {
            for (int i = 0; i < NAME_LENGTH; i++) {
                put(entry, NAME_AT + i, name[i]);
            }
        }

        boolean eraseAny(int[] name) {
            boolean any = false;
            for (int entry = 0; entry < ENTRIES; entry++) {
                if (matches(entry, name, true)) {
                    free(entry);
                    any = true;
                }
            }
            return any;
        }

        // Anew each time, since any entry may have been changed from outside by then.
        void markUsed() {
            for (int block = ENTRIES; block < BLOCKS; block++) {
                taken[block] = false;
            }
            for (int entry = 0; entry < ENTRIES; entry++) {
                int count = isFree(entry) ? 0 : recordsOf(entry);
                for (int i = 0; i < count; i++) {
                    mark(get(entry, RECORDS_AT + i));
                }
            }
        }

        void mark(int block) {
            taken[block & 255] = true;
        }

        int leastUnmarked() {
            for (int block = ENTRIES; block < BLOCKS; block++) {
                if (!taken[block]) {
                    return block;
                }
            }
            return NONE;
        }

        void read(int block, Memory memory, int address) {
            for (int i = 0; i < BLOCK_SIZE; i++) {
                memory.put(address + i, get(block, i));
            }
        }

        void write(int block, Memory memory, int address) {
            for (int i = 0; i < BLOCK_SIZE; i++) {
                put(block, i, memory.get(address + i));
            }
        }
    }

    private static final class FileCalls {
        static final int OPEN = 15;
        static final int CLOSE = 16;
        static final int SEARCH = 17;
        static final int SEARCH_ON = 18;
        static final int ERASE = 19;
        static final int READ = 20;
        static final int WRITE = 21;
        static final int MAKE = 22;
        static final int RENAME = 23;

        private final Memory memory;
        private final Disk disk;
        private final int[] name;
        int buffer;
        private int searchFrom;

        FileCalls(Memory memory, Disk disk) {
            this.memory = memory;
            this.disk = disk;
            name = new int[NAME_LENGTH];
            buffer = FIRST_BUFFER;
            searchFrom = 0;
        }

        int answer(int call, int fileBlock) {
            takeName(fileBlock + NAME_AT);
            switch (call) {
                case OPEN:
                    return open(fileBlock);
                case CLOSE:
                    return close(fileBlock);
                case SEARCH:
                    return search(0);
                case SEARCH_ON:
                    return search(searchFrom);
                case ERASE:
                    return disk.eraseAny(name) ? 0 : NOT_FOUND;
                case READ:
                    return read(fileBlock);
                case WRITE:
                    return write(fileBlock);
                case MAKE:
                    return make(fileBlock);
                case RENAME:
                    return rename(fileBlock);
                default:
                    return 0;
            }
        }

        private void takeName(int address) {
            for (int i = 0; i < NAME_LENGTH; i++) {
                name[i] = memory.get(address + i);
            }
        }

        private int open(int fileBlock) {
            int entry = disk.findFitting(name, 0);
            if (entry == NONE) {
                return NOT_FOUND;
            }
            for (int i = NAME_AT; i < Disk.BLOCK_SIZE; i++) {
                memory.put(fileBlock + i, disk.get(entry, i));
            }
            return entry;
        }

        private int close(int fileBlock) {
            int entry = disk.findExact(name);
            if (entry == NONE) {
                return NOT_FOUND;
            }
            for (int i = COUNT_AT; i < Disk.BLOCK_SIZE; i++) {
                disk.put(entry, i, memory.get(fileBlock + i));
            }
            return entry;
        }

        private int search(int from) {
            int entry = disk.findFitting(name, from);
            if (entry == NONE) {
                searchFrom = Disk.ENTRIES;
                return NOT_FOUND;
            }
            searchFrom = entry + 1;
            disk.read(entry, memory, buffer);
            return entry;
        }

        private int read(int fileBlock) {
            int next = memory.get(fileBlock + NEXT_AT);
            if (next >= MOST_RECORDS || !hasRecord(fileBlock, next)) {
                return 1;
            }
            disk.read(memory.get(fileBlock + RECORDS_AT + next), memory, buffer);
            // From the number taken before: the record may have gone over the file block itself.
            memory.put(fileBlock + NEXT_AT, next + 1);
            return 0;
        }

        private boolean hasRecord(int fileBlock, int record) {
            return record < memory.get(fileBlock + COUNT_AT)
                    && Disk.isForRecords(memory.get(fileBlock + RECORDS_AT + record));
        }

        private int write(int fileBlock) {
            int next = memory.get(fileBlock + NEXT_AT);
            if (next >= MOST_RECORDS) {
                return 1;
            }
            if (!hasRecord(fileBlock, next)) {
                int unused = unusedBlock(fileBlock);
                if (unused == NONE) {
                    return 2;
                }
                // Before the bytes go out: the buffer may lie over the file block.
                memory.put(fileBlock + RECORDS_AT + next, unused);
            }
            disk.write(memory.get(fileBlock + RECORDS_AT + next), memory, buffer);
            if (memory.get(fileBlock + COUNT_AT) < next + 1) {
                memory.put(fileBlock + COUNT_AT, next + 1);
            }
            memory.put(fileBlock + NEXT_AT, next + 1);
            return 0;
        }

        private int unusedBlock(int fileBlock) {
            disk.markUsed();
            int count = memory.get(fileBlock + COUNT_AT);
            // A file that is not closed yet has blocks that no entry tells of.
            for (int i = 0; i < count && i < MOST_RECORDS; i++) {
                disk.mark(memory.get(fileBlock + RECORDS_AT + i));
            }
            return disk.leastUnmarked();
        }

        private int make(int fileBlock) {
            int entry = disk.make(name);
            if (entry == NONE) {
                return NOT_FOUND;
            }
            for (int i = COUNT_AT; i < Disk.BLOCK_SIZE; i++) {
                memory.put(fileBlock + i, 0);
            }
            return entry;
        }

        private int rename(int fileBlock) {
            int entry = disk.findExact(name);
            if (entry == NONE) {
                return NOT_FOUND;
            }
            takeName(fileBlock + NEW_NAME_AT);
            disk.rename(entry, name);
            return 0;
        }
    }

    private static final class Desk {
        static final int LINE_END = 13;

        private static final int LONGEST_LINE = 20;
        private static final int WORDS = 3;
        private static final int SPACE = 32;
        private static final int LAST_CHARACTER = 126;
        private static final int READY = 62;
        private static final int REFUSED = 63;
        private static final int FILE_END = 26;

        private static final int LIST = 0;
        private static final int SHOW = 1;
        private static final int DROP = 2;
        private static final int CALL = 3;
        private static final int SAVE = 4;
        private static final int LOAD = 5;
        private static final int NOTHING = 6;
        private static final int[] WORDS_NEEDED = {1, 2, 2, 3, 3, 1, 0};

        private final Memory memory;
        private final Disk disk;
        private final Screen screen;
        private final int[] line;
        private final int[] wordStart;
        private final int[] wordEnd;
        private final int[] name;
        int length;
        private int words;

        Desk(Memory memory, Disk disk, Screen screen) {
            this.memory = memory;
            this.disk = disk;
            this.screen = screen;
            line = new int[LONGEST_LINE];
            wordStart = new int[WORDS];
            wordEnd = new int[WORDS];
            name = new int[NAME_LENGTH];
            length = 0;
            words = 0;
        }

        void add(int k) {
            if (k >= SPACE && k <= LAST_CHARACTER && length < LONGEST_LINE) {
                line[length] = k;
                length++;
            }
        }

        // Answers whether a run begins, since the desk has neither the processor nor the buffer.
        boolean endLine() {
            findWords();
            length = 0;
            int command = commandOfLine();
            boolean obeyed = words >= WORDS_NEEDED[command] && obey(command);
            if (!obeyed) {
                screen.show(REFUSED);
            }
            screen.show(LINE_END);
            boolean begins = obeyed && command == LOAD;
            if (!begins) {
                screen.show(READY);
            }
            return begins;
        }

        private void findWords() {
            words = 0;
            int end = 0;
            for (int i = 0; i < WORDS; i++) {
                int start = skip(end, true);
                end = skip(start, false);
                if (start < end) {
                    wordStart[i] = start;
                    wordEnd[i] = end;
                    words++;
                }
            }
        }

        private int skip(int from, boolean spaces) {
            int at = from;
            while (at < length && (line[at] == SPACE) == spaces) {
                at++;
            }
            return at;
        }

        private int commandOfLine() {
            if (words == 0) {
                return NOTHING;
            }
            if (firstWordIs("LIST")) {
                return LIST;
            }
            if (firstWordIs("SHOW")) {
                return SHOW;
            }
            if (firstWordIs("DROP")) {
                return DROP;
            }
            if (firstWordIs("CALL")) {
                return CALL;
            }
            return firstWordIs("SAVE") ? SAVE : LOAD;
        }

        private boolean firstWordIs(String text) {
            int size = wordEnd[0] - wordStart[0];
            if (size != text.length()) {
                return false;
            }
            for (int i = 0; i < size; i++) {
                if (line[wordStart[0] + i] != text.charAt(i)) {
                    return false;
                }
            }
            return true;
        }

        private boolean obey(int command) {
            switch (command) {
                case LIST:
                    listFiles();
                    return true;
                case SHOW:
                    return showFile();
                case DROP:
                    takeName(1);
                    disk.eraseAny(name);
                    return true;
                case CALL:
                    return renameFile();
                case SAVE:
                    return saveFile();
                case LOAD:
                    return loadFile();
                default:
                    return true;
            }
        }

        private void takeName(int word) {
            for (int i = 0; i < NAME_LENGTH; i++) {
                int at = wordStart[word] + i;
                name[i] = at < wordEnd[word] ? line[at] : SPACE;
            }
        }

        private int findFile(int word) {
            takeName(word);
            return disk.findExact(name);
        }

        private void listFiles() {
            for (int entry = 0; entry < Disk.ENTRIES; entry++) {
                if (!disk.isFree(entry)) {
                    for (int i = 0; i < NAME_LENGTH; i++) {
                        screen.show(disk.get(entry, NAME_AT + i));
                    }
                    screen.show(SPACE);
                }
            }
        }

        private boolean showFile() {
            int entry = findFile(1);
            if (entry == NONE) {
                return false;
            }
            int count = disk.recordsOf(entry);
            for (int i = 0; i < count; i++) {
                int block = disk.get(entry, RECORDS_AT + i);
                if (Disk.isForRecords(block) && !showBlock(block)) {
                    return true;
                }
            }
            return true;
        }

        // Answers whether more may follow, since one byte 26 ends all records.
        private boolean showBlock(int block) {
            for (int i = 0; i < Disk.BLOCK_SIZE; i++) {
                int character = disk.get(block, i);
                if (character == FILE_END) {
                    return false;
                }
                screen.show(character);
            }
            return true;
        }

        private boolean renameFile() {
            int entry = findFile(1);
            if (entry == NONE) {
                return false;
            }
            takeName(2);
            disk.rename(entry, name);
            return true;
        }

        private boolean saveFile() {
            int count = line[wordStart[1]] - '0';
            if (wordEnd[1] - wordStart[1] != 1 || count < 0 || count > 9) {
                return false;
            }
            int old = findFile(2);
            if (old != NONE) {
                disk.free(old);
            }
            int entry = disk.make(name);
            return entry != NONE && saveRecords(entry, count);
        }

        private boolean saveRecords(int entry, int count) {
            for (int i = 0; i < count; i++) {
                disk.markUsed();
                int block = disk.leastUnmarked();
                if (block == NONE) {
                    return false;
                }
                disk.write(block, memory, PROGRAM_ADDRESS + Disk.BLOCK_SIZE * i);
                disk.put(entry, RECORDS_AT + i, block);
                disk.put(entry, COUNT_AT, i + 1);
            }
            return true;
        }

        private boolean loadFile() {
            int entry = findFile(0);
            if (entry == NONE) {
                return false;
            }
            int count = disk.recordsOf(entry);
            for (int i = 0; i < count; i++) {
                int block = disk.get(entry, RECORDS_AT + i);
                if (Disk.isForRecords(block)) {
                    disk.read(block, memory, PROGRAM_ADDRESS + Disk.BLOCK_SIZE * i);
                }
            }
            return true;
        }
    }
}
