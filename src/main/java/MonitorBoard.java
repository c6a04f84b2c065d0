import java.util.Arrays;

/** A board of eight bits with two drives of soft disks and its monitor. */
public final class MonitorBoard {
    private static final int TAPE_MOST = 4000;
    private static final int TOLD_MOST = 8000;
    private static final int KEYS_MOST = 2000;
    private static final int HEX_MOST = 2000;
    private static final int HEX_ROW = 16;
    private static final int STATES_MOST = 200000;
    /** Far above what the states and the keys of one run can need. */
    private static final int TURNS_MOST = 1000000;

    private static final int MEMORY_SIZE = 65536;
    private static final int WORD = 65535;
    private static final int PROGRAM = 256;
    private static final int PROGRAM_END = 58368;
    private static final int PROGRAM_SIZE = PROGRAM_END - PROGRAM;
    private static final int PROGRAM_RECORDS = 454;
    private static final int DATA = 128;

    private static final int RECORD = 128;
    private static final int TRACKS = 77;
    private static final int SECTORS = 26;
    private static final int DRIVE_SIZE = TRACKS * SECTORS * RECORD;
    private static final int ENTRIES = 64;
    private static final int ENTRY_SIZE = 32;
    private static final int FCB_SIZE = 36;
    /** Behind the directory. */
    private static final int FIRST_BLOCK = 2;
    private static final int LAST_BLOCK = 242;
    private static final int BLOCKS = 243;
    private static final int BLOCK_RECORDS = 8;
    private static final int EXTENT_RECORDS = 128;
    private static final int LAST_EXTENT = 31;
    private static final int FREE = 0xE5;
    private static final int ANY = -1;
    private static final int EVERY = '?';

    /** What a call of the monitor can come to, beside its result. */
    private static final int WAITS = -1;
    private static final int COLD_BOOT = -2;
    private static final int WARM_BOOT = -3;
    private static final int SELECT = -4;
    private static final int DRIVE_SHUT = -5;
    private static final int FILE_SHUT = -6;

    private static final int LINE_WAITS = 0;
    private static final int LINE_DONE = 1;
    private static final int LINE_BROKEN = 2;

    private static final String DIGITS = "0123456789ABCDEF";

    private final byte[] tape = new byte[TAPE_MOST];
    private final byte[] result = new byte[PROGRAM_SIZE];
    private final byte[] hexSource = new byte[HEX_MOST];
    private final Console terminal;
    private final Processor processor;
    private final Files files;
    private final Monitor monitor;
    private final Shell shell;
    private final Assembler assembler;
    private final Lister lister;
    private int tapeCount;
    private int resultCount;

    public MonitorBoard() {
        terminal = new Console();
        processor = new Processor(terminal);
        files = new Files();
        monitor = new Monitor(processor, terminal, files);
        shell = new Shell(monitor);
        assembler = new Assembler(tape, result);
        lister = new Lister(processor.store, result);
        monitor.bootCold();
    }

    public boolean feed(int a, int b, int c, int d, int e) {
        if (tapeCount + 20 > TAPE_MOST) {
            return false;
        }
        feedNumber(a);
        feedNumber(b);
        feedNumber(c);
        feedNumber(d);
        feedNumber(e);
        return true;
    }

    private void feedNumber(int number) {
        for (int shift = 24; shift >= 0; shift -= 8) {
            tape[tapeCount] = (byte) (number >> shift);
            tapeCount++;
        }
    }

    public boolean end(int n) {
        if (n < 0 || n > tapeCount) {
            return false;
        }
        tapeCount = n;
        return true;
    }

    public int keys() {
        if (terminal.keyCount + tapeCount > KEYS_MOST) {
            return -1;
        }
        terminal.addKeys(tape, tapeCount);
        tapeCount = 0;
        return terminal.keyCount;
    }

    public void boot() {
        monitor.bootCold();
    }

    public int run(int n) {
        if (n < 1 || n > STATES_MOST) {
            return processor.stopped ? 2 : 0;
        }
        long end = processor.spent + n;
        for (int turn = 0; turn < TURNS_MOST; turn++) {
            if (processor.stopped) {
                return 2;
            }
            if (processor.spent >= end) {
                return 0;
            }
            if (monitor.atCommand) {
                if (!shell.goOn()) {
                    return 1;
                }
            } else if (Monitor.isEntry(processor.pc)) {
                if (!monitor.serve()) {
                    return 1;
                }
            } else {
                processor.step();
            }
        }
        return 0;
    }

    public long states() {
        return processor.spent;
    }

    public int register(int i) {
        if (i < 0 || i > 12) {
            return -1;
        }
        switch (i) {
            case 6:
                return processor.flags;
            case 8:
                return processor.sp;
            case 9:
                return processor.pc;
            case 10:
                return files.hand;
            case 11:
                return files.user;
            case 12:
                return monitor.data;
            default:
                return processor.r[i];
        }
    }

    public int memory(int at) {
        if (at < 0 || at >= MEMORY_SIZE) {
            return -1;
        }
        return processor.peek(at);
    }

    public void load(int at) {
        for (int i = 0; i < tapeCount; i++) {
            processor.poke(at + i, tape[i]);
        }
        tapeCount = 0;
    }

    public void jump(int at) {
        processor.pc = at & WORD;
        processor.stopped = false;
        monitor.atCommand = false;
        terminal.lineOpen = false;
    }

    public int console() {
        resultCount = terminal.takeTold(result);
        return resultCount;
    }

    public int out(int i) {
        if (i < 0 || i >= resultCount) {
            return -1;
        }
        return result[i] & 255;
    }

    public int assemble() {
        int count = assembler.translate(tapeCount);
        tapeCount = 0;
        resultCount = Math.max(count, 0);
        return count;
    }

    public int back() {
        tapeCount = Math.min(resultCount, TAPE_MOST);
        System.arraycopy(result, 0, tape, 0, tapeCount);
        return tapeCount;
    }

    public int disk(int drive, int track, int sector, int k, int mask) {
        if (drive < 0 || drive > 1 || k < 0 || k >= RECORD || !Files.isSector(track, sector)) {
            return -1;
        }
        int place = Files.sectorPlace(drive, track, sector) + k;
        files.surface[place] = (byte) (files.surface[place] ^ mask);
        return files.surface[place] & 255;
    }

    public int list(int at) {
        resultCount = lister.tellCode(at);
        return resultCount;
    }

    public int hex() {
        int count = Math.min(resultCount, HEX_MOST);
        System.arraycopy(result, 0, hexSource, 0, count);
        resultCount = 0;
        for (int from = 0; from < count; from += HEX_ROW) {
            putHexLine(from, Math.min(HEX_ROW, count - from));
        }
        putText(":00000001FF\r\n");
        return resultCount;
    }

    private void putHexLine(int from, int count) {
        int address = PROGRAM + from;
        int sum = count + (address >> 8) + address;
        putText(":");
        putHexByte(count);
        putHexByte(address >> 8);
        putHexByte(address);
        putHexByte(0);
        for (int i = from; i < from + count; i++) {
            sum += hexSource[i];
            putHexByte(hexSource[i]);
        }
        putHexByte(-sum);
        putText("\r\n");
    }

    private void putHexByte(int value) {
        putSign(DIGITS.charAt(value >> 4 & 15));
        putSign(DIGITS.charAt(value & 15));
    }

    private void putText(String text) {
        for (int i = 0; i < text.length(); i++) {
            putSign(text.charAt(i));
        }
    }

    private void putSign(int sign) {
        if (resultCount < PROGRAM_SIZE) {
            result[resultCount] = (byte) sign;
            resultCount++;
        }
    }

    /** A word of at most eight signs below 128 as one number; the 1 ahead keeps words with 0 signs apart. */
    private static long packed(long word, int sign) {
        return word * 128 + sign;
    }

    /** The words of a text, S between, as numbers. */
    private static long[] packedWords(String names, int count) {
        long[] words = new long[count];
        int index = 0;
        long word = 1;
        for (int i = 0; i <= names.length() && index < count; i++) {
            if (i == names.length() || names.charAt(i) == ' ') {
                words[index] = word;
                index++;
                word = 1;
            } else {
                word = packed(word, names.charAt(i));
            }
        }
        return words;
    }

    private static int indexOfWord(long[] words, int count, long word) {
        for (int i = 0; i < count && i < words.length; i++) {
            if (words[i] == word) {
                return i;
            }
        }
        return -1;
    }

    private static int capital(int sign) {
        return sign >= 'a' && sign <= 'z' ? sign - 32 : sign;
    }

    /** The keys that wait, what was told, and the line that is being read. */
    private static final class Console {
        final byte[] told = new byte[TOLD_MOST];
        final byte[] waiting = new byte[KEYS_MOST];
        final int[] line = new int[256];
        int toldFrom;
        int toldCount;
        int keyFrom;
        int keyCount;
        int lineCount;
        int lineMost;
        boolean lineOpen;

        void tell(int sign) {
            told[(toldFrom + toldCount) % TOLD_MOST] = (byte) sign;
            if (toldCount < TOLD_MOST) {
                toldCount++;
            } else {
                toldFrom = (toldFrom + 1) % TOLD_MOST;
            }
        }

        void tellText(String text) {
            for (int i = 0; i < text.length(); i++) {
                tell(text.charAt(i));
            }
        }

        void tellLine(String text) {
            tell(13);
            tell(10);
            for (int i = 0; i < text.length(); i++) {
                tell(text.charAt(i));
            }
        }

        /** For numbers below 100000, as records, blocks and users are. */
        void tellNumber(int number) {
            boolean begun = false;
            for (int unit = 10000; unit > 0; unit /= 10) {
                int digit = number / unit % 10;
                begun = begun || digit > 0 || unit == 1;
                if (begun) {
                    tell('0' + digit);
                }
            }
        }

        void tellHex(int number, int digits) {
            for (int shift = 4 * (digits - 1); shift >= 0; shift -= 4) {
                tell(DIGITS.charAt(number >> shift & 15));
            }
        }

        int takeTold(byte[] to) {
            int count = Math.min(toldCount, to.length);
            for (int i = 0; i < count; i++) {
                to[i] = told[(toldFrom + i) % TOLD_MOST];
            }
            toldFrom = 0;
            toldCount = 0;
            return count;
        }

        void addKeys(byte[] from, int count) {
            for (int i = 0; i < count && i < from.length && keyCount < KEYS_MOST; i++) {
                waiting[(keyFrom + keyCount) % KEYS_MOST] = from[i];
                keyCount++;
            }
        }

        /** The next key; 0 without one. */
        int takeKey() {
            if (keyCount == 0) {
                return 0;
            }
            int key = waiting[keyFrom] & 255;
            keyFrom = (keyFrom + 1) % KEYS_MOST;
            keyCount--;
            return key;
        }

        int status() {
            return keyCount > 0 ? 255 : 0;
        }

        void openLine(int most) {
            lineMost = Math.min(most, line.length);
            lineCount = 0;
            lineOpen = true;
        }

        /** Takes keys until the line ends; what came stays when it has to wait. */
        int readLine() {
            for (int turn = 0; turn < KEYS_MOST && keyCount > 0; turn++) {
                int key = takeKey() & 127;
                if (key == 13 || key == 10) {
                    return endLine();
                }
                if (key == 8 || key == 127) {
                    takeBack();
                } else if (key == 3 && lineCount == 0) {
                    lineOpen = false;
                    return LINE_BROKEN;
                } else {
                    takeSign(key);
                    if (lineCount >= lineMost) {
                        return endLine();
                    }
                }
            }
            return LINE_WAITS;
        }

        private int endLine() {
            tell(13);
            lineOpen = false;
            return LINE_DONE;
        }

        private void takeBack() {
            if (lineCount > 0) {
                lineCount--;
                tell(8);
                tell(32);
                tell(8);
            }
        }

        private void takeSign(int key) {
            if (lineCount < line.length) {
                line[lineCount] = key;
                lineCount++;
            }
            if (key < 32) {
                tell('^');
                tell(key + 64);
            } else {
                tell(key);
            }
        }
    }

    /** The processor with its memory; states are counted as they are spent. */
    private static final class Processor {
        static final int SIGN = 128;
        static final int ZERO = 64;
        static final int HALF = 16;
        static final int EVEN = 4;
        static final int CARRY = 1;
        static final int ALWAYS = 2;
        static final int ACCUMULATOR = 7;
        static final int AT_HL = 6;

        final byte[] store = new byte[MEMORY_SIZE];
        final int[] r = new int[8];
        final Console console;
        int flags = ALWAYS;
        int sp;
        int pc;
        long spent;
        boolean stopped;

        Processor(Console console) {
            this.console = console;
        }

        void clearRegisters() {
            Arrays.fill(r, 0);
            flags = ALWAYS;
            sp = 0;
        }

        int peek(int at) {
            return store[at & WORD] & 255;
        }

        void poke(int at, int value) {
            store[at & WORD] = (byte) value;
        }

        int peekWord(int at) {
            return store[at & WORD] & 255 | (store[at + 1 & WORD] & 255) << 8;
        }

        void pokeWord(int at, int value) {
            store[at & WORD] = (byte) value;
            store[at + 1 & WORD] = (byte) (value >> 8);
        }

        /** Pairs 0 BC, 1 DE, 2 HL, 3 SP. */
        int pair(int p) {
            return p == 3 ? sp : r[2 * p & 7] << 8 | r[2 * p + 1 & 7];
        }

        void setPair(int p, int value) {
            if (p == 3) {
                sp = value & WORD;
            } else {
                r[2 * p & 7] = value >> 8 & 255;
                r[2 * p + 1 & 7] = value & 255;
            }
        }

        void push(int value) {
            sp = sp - 2 & WORD;
            pokeWord(sp, value);
        }

        int pop() {
            int value = peekWord(sp);
            sp = sp + 2 & WORD;
            return value;
        }

        void step() {
            int code = nextByte();
            switch (code >> 6) {
                case 0:
                    stepLow(code);
                    break;
                case 1:
                    stepMove(code);
                    break;
                case 2:
                    reckon(code >> 3 & 7, valueOf(code & 7));
                    spent += (code & 7) == AT_HL ? 7 : 4;
                    break;
                default:
                    stepHigh(code);
                    break;
            }
        }

        private int nextByte() {
            int value = store[pc & WORD] & 255;
            pc = pc + 1 & WORD;
            return value;
        }

        private int nextWord() {
            int low = nextByte();
            return low | nextByte() << 8;
        }

        private int valueOf(int n) {
            return n == AT_HL ? peek(pair(2)) : r[n & 7];
        }

        private void setValue(int n, int value) {
            if (n == AT_HL) {
                poke(pair(2), value);
            } else {
                r[n & 7] = value & 255;
            }
        }

        private boolean has(int flag) {
            return (flags & flag) != 0;
        }

        private void setFlag(int flag, boolean on) {
            flags = on ? flags | flag : flags & ~flag;
        }

        private void flagsOf(int value) {
            int shape = value & SIGN;
            if ((value & 255) == 0) {
                shape |= ZERO;
            }
            if ((Integer.bitCount(value & 255) & 1) == 0) {
                shape |= EVEN;
            }
            flags = flags & ~(SIGN | ZERO | EVEN) | shape;
        }

        private void stepMove(int code) {
            int to = code >> 3 & 7;
            int from = code & 7;
            if (code == 0x76) {
                stopped = true;
                spent += 7;
            } else {
                setValue(to, valueOf(from));
                spent += to == AT_HL || from == AT_HL ? 7 : 5;
            }
        }

        private void stepLow(int code) {
            int n = code >> 3 & 7;
            int p = code >> 4 & 3;
            boolean second = (code & 8) != 0;
            switch (code & 7) {
                case 1:
                    if (second) {
                        addPair(p);
                    } else {
                        setPair(p, nextWord());
                    }
                    spent += 10;
                    break;
                case 2:
                    carryOver(n);
                    break;
                case 3:
                    setPair(p, pair(p) + (second ? -1 : 1));
                    spent += 5;
                    break;
                case 4:
                    increase(n);
                    break;
                case 5:
                    decrease(n);
                    break;
                case 6:
                    setValue(n, nextByte());
                    spent += n == AT_HL ? 10 : 7;
                    break;
                case 7:
                    turnAccumulator(n);
                    spent += 4;
                    break;
                default:
                    spent += 4;
                    break;
            }
        }

        private void addPair(int p) {
            int sum = pair(2) + pair(p);
            setPair(2, sum);
            setFlag(CARRY, sum > WORD);
        }

        /** STAX, LDAX, SHLD, LHLD, STA, LDA. */
        private void carryOver(int n) {
            switch (n) {
                case 4:
                    pokeWord(nextWord(), pair(2));
                    spent += 16;
                    break;
                case 5:
                    setPair(2, peekWord(nextWord()));
                    spent += 16;
                    break;
                case 6:
                    poke(nextWord(), r[ACCUMULATOR]);
                    spent += 13;
                    break;
                case 7:
                    r[ACCUMULATOR] = peek(nextWord());
                    spent += 13;
                    break;
                default:
                    if ((n & 1) == 0) {
                        poke(pair(n >> 1), r[ACCUMULATOR]);
                    } else {
                        r[ACCUMULATOR] = peek(pair(n >> 1));
                    }
                    spent += 7;
                    break;
            }
        }

        private void increase(int n) {
            int value = valueOf(n) + 1 & 255;
            setValue(n, value);
            flagsOf(value);
            setFlag(HALF, (value & 15) == 0);
            spent += n == AT_HL ? 10 : 5;
        }

        private void decrease(int n) {
            int value = valueOf(n) - 1 & 255;
            setValue(n, value);
            flagsOf(value);
            setFlag(HALF, (value & 15) != 15);
            spent += n == AT_HL ? 10 : 5;
        }

        /** RLC, RRC, RAL, RAR, DAA, CMA, STC, CMC. */
        private void turnAccumulator(int n) {
            int a = r[ACCUMULATOR];
            int carry = flags & CARRY;
            switch (n) {
                case 0:
                    shifted(a << 1 | a >> 7, (a & 128) != 0);
                    break;
                case 1:
                    shifted(a >> 1 | a << 7, (a & 1) != 0);
                    break;
                case 2:
                    shifted(a << 1 | carry, (a & 128) != 0);
                    break;
                case 3:
                    shifted(a >> 1 | carry << 7, (a & 1) != 0);
                    break;
                case 4:
                    adjust();
                    break;
                case 5:
                    r[ACCUMULATOR] = a ^ 255;
                    break;
                case 6:
                    setFlag(CARRY, true);
                    break;
                default:
                    setFlag(CARRY, carry == 0);
                    break;
            }
        }

        private void shifted(int value, boolean carry) {
            r[ACCUMULATOR] = value & 255;
            setFlag(CARRY, carry);
        }

        private void adjust() {
            int a = r[ACCUMULATOR];
            boolean tens = a > 153 || has(CARRY);
            int low = (a & 15) > 9 || has(HALF) ? 6 : 0;
            int value = a + low + (tens ? 96 : 0) & 255;
            r[ACCUMULATOR] = value;
            flagsOf(value);
            setFlag(HALF, (a & 15) + low > 15);
            setFlag(CARRY, tens);
        }

        /** The eight operations of the accumulator with another byte. */
        private void reckon(int operation, int other) {
            int carry = flags & CARRY;
            int a = r[ACCUMULATOR];
            switch (operation) {
                case 0:
                    addUp(other, 0);
                    break;
                case 1:
                    addUp(other, carry);
                    break;
                case 2:
                    r[ACCUMULATOR] = difference(other, 0);
                    break;
                case 3:
                    r[ACCUMULATOR] = difference(other, carry);
                    break;
                case 4:
                    joined(a & other, ((a | other) & 8) != 0);
                    break;
                case 5:
                    joined(a ^ other, false);
                    break;
                case 6:
                    joined(a | other, false);
                    break;
                default:
                    difference(other, 0);
                    break;
            }
        }

        private void addUp(int other, int carry) {
            int a = r[ACCUMULATOR];
            int sum = a + other + carry;
            r[ACCUMULATOR] = sum & 255;
            flagsOf(sum);
            setFlag(HALF, (a & 15) + (other & 15) + carry > 15);
            setFlag(CARRY, sum > 255);
        }

        private int difference(int other, int borrow) {
            int a = r[ACCUMULATOR];
            int value = a - other - borrow;
            flagsOf(value);
            setFlag(HALF, (a & 15) >= (other & 15) + borrow);
            setFlag(CARRY, value < 0);
            return value & 255;
        }

        private void joined(int value, boolean half) {
            r[ACCUMULATOR] = value;
            flagsOf(value);
            setFlag(HALF, half);
            setFlag(CARRY, false);
        }

        private boolean holds(int condition) {
            boolean set;
            switch (condition >> 1) {
                case 0:
                    set = has(ZERO);
                    break;
                case 1:
                    set = has(CARRY);
                    break;
                case 2:
                    set = has(EVEN);
                    break;
                default:
                    set = has(SIGN);
                    break;
            }
            return set == ((condition & 1) != 0);
        }

        private void stepHigh(int code) {
            int n = code >> 3 & 7;
            switch (code & 7) {
                case 0:
                    returnIf(holds(n));
                    break;
                case 1:
                    popOrReturn(n);
                    break;
                case 2:
                    jumpIf(holds(n));
                    break;
                case 3:
                    special(n);
                    break;
                case 4:
                    callIf(holds(n));
                    break;
                case 5:
                    if ((n & 1) == 0) {
                        pushPair(n >> 1);
                    } else {
                        callIf(true);
                    }
                    break;
                case 6:
                    reckon(n, nextByte());
                    spent += 7;
                    break;
                default:
                    push(pc);
                    pc = 8 * n;
                    spent += 11;
                    break;
            }
        }

        private void returnIf(boolean taken) {
            if (taken) {
                pc = pop();
            }
            spent += taken ? 11 : 5;
        }

        private void jumpIf(boolean taken) {
            int target = nextWord();
            if (taken) {
                pc = target;
            }
            spent += 10;
        }

        private void callIf(boolean taken) {
            int target = nextWord();
            if (taken) {
                push(pc);
                pc = target;
            }
            spent += taken ? 17 : 11;
        }

        private void pushPair(int p) {
            push(p == 3 ? r[ACCUMULATOR] << 8 | flags : pair(p));
            spent += 11;
        }

        /** POP, RET and its twin, PCHL, SPHL. */
        private void popOrReturn(int n) {
            if ((n & 1) == 0) {
                popPair(n >> 1);
                spent += 10;
            } else if (n < 4) {
                pc = pop();
                spent += 10;
            } else {
                if (n == 5) {
                    pc = pair(2);
                } else {
                    sp = pair(2);
                }
                spent += 5;
            }
        }

        private void popPair(int p) {
            int value = pop();
            if (p == 3) {
                r[ACCUMULATOR] = value >> 8;
                flags = value & (SIGN | ZERO | HALF | EVEN | CARRY) | ALWAYS;
            } else {
                setPair(p, value);
            }
        }

        /** JMP and its twin, OUT, IN, XTHL, XCHG, DI, EI. */
        private void special(int n) {
            switch (n) {
                case 2:
                    writePort(nextByte());
                    spent += 10;
                    break;
                case 3:
                    r[ACCUMULATOR] = readPort(nextByte());
                    spent += 10;
                    break;
                case 4:
                    int top = peekWord(sp);
                    pokeWord(sp, pair(2));
                    setPair(2, top);
                    spent += 18;
                    break;
                case 5:
                    int held = pair(2);
                    setPair(2, pair(1));
                    setPair(1, held);
                    spent += 4;
                    break;
                case 6:
                case 7:
                    spent += 4;
                    break;
                default:
                    jumpIf(true);
                    break;
            }
        }

        private int readPort(int port) {
            if (port == 0) {
                return console.status();
            }
            return port == 1 ? console.takeKey() : 255;
        }

        private void writePort(int port) {
            if (port == 1) {
                console.tell(r[ACCUMULATOR]);
            }
        }
    }

    /** The two disks, their directories, and the calls that go to files. */
    private static final class Files {
        final byte[] surface = new byte[2 * DRIVE_SIZE];
        /** Where the records of the blocks lie on a drive, in their order. */
        final int[] recordAt = new int[BLOCKS * BLOCK_RECORDS];
        final boolean[] used = new boolean[2 * BLOCKS];
        /** The FCB of the call at hand; the monitor carries it from and to memory. */
        final int[] fcb = new int[FCB_SIZE];
        final int[] sought = new int[FCB_SIZE];
        int soughtDrive;
        /** The entry from which call 18 goes on; ENTRIES when there is nothing more to be found. */
        int soughtNext;
        boolean soughtOnce;
        int logged;
        int shut;
        int hand;
        int user;
        /** The drive that the call goes to; of an error also one that there is not. */
        int drive;
        /** Where the record lies whose bytes are to be carried from or to the data; -1 when none is. */
        int carried;

        Files() {
            Arrays.fill(surface, (byte) FREE);
            for (int i = 0; i < recordAt.length; i++) {
                recordAt[i] = sectorPlace(0, 2 + i / SECTORS, sectorOf(i % SECTORS));
            }
        }

        static int sectorOf(int r) {
            return 1 + (6 * r + r / 13) % SECTORS;
        }

        static boolean isSector(int track, int sector) {
            return track >= 0 && track < TRACKS && sector >= 1 && sector <= SECTORS;
        }

        static int sectorPlace(int drive, int track, int sector) {
            return drive * DRIVE_SIZE + (track * SECTORS + sector - 1) * RECORD;
        }

        /** Asked only for entries 0 .. 63 of drives 0 and 1. */
        int entryPlace(int d, int entry) {
            return d * DRIVE_SIZE + recordAt[entry >> 2] + (entry & 3) * ENTRY_SIZE;
        }

        void forgetDrives() {
            logged = 0;
            soughtOnce = false;
        }

        void login(int d) {
            if ((logged >> d & 1) != 0) {
                return;
            }
            logged |= 1 << d;
            for (int block = 0; block < BLOCKS; block++) {
                used[d * BLOCKS + block] = block < FIRST_BLOCK;
            }
            for (int e = 0; e < ENTRIES; e++) {
                int place = entryPlace(d, e);
                if ((surface[place] & 255) != FREE) {
                    setUse(d, place, true);
                }
            }
        }

        /** The directory's own blocks stay in use, whatever an entry tells. */
        private void setUse(int d, int place, boolean on) {
            for (int k = 16; k < ENTRY_SIZE; k++) {
                int block = surface[place + k] & 255;
                if (block >= FIRST_BLOCK && block <= LAST_BLOCK) {
                    used[d * BLOCKS + block] = on;
                }
            }
        }

        int freeBlocks(int d) {
            int count = 0;
            for (int block = 0; block < BLOCKS; block++) {
                if (!used[d * BLOCKS + block]) {
                    count++;
                }
            }
            return count;
        }

        /** The first entry of the user from one on with a name (of any extent: ANY); -1 without one. */
        int find(int[] like, int d, int extent, int from, boolean wild) {
            for (int e = from; e < ENTRIES; e++) {
                int place = d * DRIVE_SIZE + recordAt[e >> 2] + (e & 3) * ENTRY_SIZE;
                boolean same = (surface[place] & 255) == user
                    && (extent == ANY || (surface[place + 12] & 255) == extent);
                for (int k = 1; k < 12 && same; k++) {
                    same = wild && (like[k] & 127) == EVERY || ((like[k] ^ surface[place + k]) & 127) == 0;
                }
                if (same) {
                    return e;
                }
            }
            return -1;
        }

        /** One of the calls that have an FCB, or 18: its result or an error. */
        int perform(int number) {
            carried = -1;
            if (number == 36) {
                return setPlace(fcb[12] * EXTENT_RECORDS + fcb[32]);
            }
            if (number == 18) {
                return soughtOnce ? search() : 255;
            }
            int wrong = choose(number == 17);
            if (wrong == 0) {
                wrong = guard(number);
            }
            if (wrong != 0) {
                return wrong;
            }
            switch (number) {
                case 15:
                    return numberOf(openExtent(fcb[12] & 31));
                case 16:
                    return closeExtent();
                case 17:
                    keepSearch();
                    return search();
                case 19:
                    return erase();
                case 20:
                    return readNext();
                case 21:
                    return writeNext();
                case 22:
                    return numberOf(makeExtent(fcb[12] & 31));
                case 23:
                    return rename(17, 127);
                case 30:
                    return rename(1, 255);
                case 35:
                    return setPlace(recordsOf(fcb, drive));
                default:
                    return goAtPlace(number);
            }
        }

        private static int numberOf(int entry) {
            return entry < 0 ? 255 : entry & 3;
        }

        private int choose(boolean search) {
            drive = fcb[0] == 0 || search && fcb[0] == EVERY ? hand : fcb[0] - 1;
            if (drive > 1) {
                return SELECT;
            }
            login(drive);
            return 0;
        }

        /** Whether a call may write at all; 16 looks at it by itself. */
        private int guard(int number) {
            boolean renews = number == 19 || number == 21 || number == 23 || number == 34 || number == 40;
            if (!renews && number != 22 && number != 30) {
                return 0;
            }
            if ((shut >> drive & 1) != 0) {
                return DRIVE_SHUT;
            }
            int first = renews ? find(fcb, drive, ANY, 0, number == 19) : -1;
            if (first >= 0 && (surface[entryPlace(drive, first) + 9] & 128) != 0) {
                return FILE_SHUT;
            }
            return 0;
        }

        private int openExtent(int extent) {
            int entry = find(fcb, drive, extent, 0, false);
            if (entry >= 0) {
                int place = entryPlace(drive, entry);
                for (int k = 12; k < ENTRY_SIZE; k++) {
                    fcb[k] = surface[place + k] & 255;
                }
            }
            return entry;
        }

        private int makeExtent(int extent) {
            for (int e = 0; e < ENTRIES; e++) {
                int place = entryPlace(drive, e);
                if ((surface[place] & 255) == FREE) {
                    Arrays.fill(surface, place, place + ENTRY_SIZE, (byte) 0);
                    surface[place] = (byte) user;
                    for (int k = 1; k < 12; k++) {
                        surface[place + k] = (byte) (fcb[k] & 127);
                    }
                    surface[place + 12] = (byte) extent;
                    Arrays.fill(fcb, 12, ENTRY_SIZE, 0);
                    fcb[12] = extent;
                    return e;
                }
            }
            return -1;
        }

        /** As call 16: the entry's number, 255 without one, or an error. */
        int closeExtent() {
            int entry = find(fcb, drive, fcb[12] & 31, 0, false);
            if (entry < 0) {
                return 255;
            }
            int place = entryPlace(drive, entry);
            for (int k = 15; k < ENTRY_SIZE; k++) {
                if ((surface[place + k] & 255) != fcb[k] && (shut >> drive & 1) != 0) {
                    return DRIVE_SHUT;
                }
            }
            for (int k = 15; k < ENTRY_SIZE; k++) {
                surface[place + k] = (byte) fcb[k];
            }
            return numberOf(entry);
        }

        private void keepSearch() {
            System.arraycopy(fcb, 0, sought, 0, 13);
            soughtDrive = drive;
            soughtNext = 0;
            soughtOnce = true;
        }

        private int search() {
            login(soughtDrive);
            int entry = -1;
            if (sought[0] == EVERY) {
                entry = soughtNext < ENTRIES ? soughtNext : -1;
            } else {
                int extent = sought[12] == EVERY ? ANY : sought[12] & 31;
                entry = find(sought, soughtDrive, extent, soughtNext, true);
            }
            if (entry >= 0) {
                carried = soughtDrive * DRIVE_SIZE + recordAt[entry >> 2];
            }
            soughtNext = entry < 0 ? ENTRIES : entry + 1;
            return numberOf(entry);
        }

        /** The file is deleted and made, as by calls 19 and 22: the result of 22, or an error. */
        int remake(int[] file) {
            System.arraycopy(file, 0, fcb, 0, FCB_SIZE);
            int wrong = choose(false);
            if (wrong == 0) {
                wrong = guard(19);
            }
            if (wrong != 0) {
                return wrong;
            }
            erase();
            return numberOf(makeExtent(0));
        }

        private int erase() {
            int answer = 255;
            int e = -1;
            for (int turn = 0; turn < ENTRIES; turn++) {
                e = find(fcb, drive, ANY, e + 1, true);
                if (e < 0) {
                    break;
                }
                int place = entryPlace(drive, e);
                surface[place] = (byte) FREE;
                setUse(drive, place, false);
                answer = 0;
            }
            return answer;
        }

        /** All entries of the file get the name that stands at a place of the FCB. */
        private int rename(int from, int mask) {
            int answer = 255;
            int e = -1;
            for (int turn = 0; turn < ENTRIES; turn++) {
                e = find(fcb, drive, ANY, e + 1, false);
                if (e < 0) {
                    break;
                }
                int place = entryPlace(drive, e);
                for (int k = 0; k < 11; k++) {
                    surface[place + 1 + k] = (byte) (fcb[from + k] & mask);
                }
                answer = 0;
            }
            return answer;
        }

        int recordsOf(int[] file, int d) {
            int most = 0;
            int e = -1;
            for (int turn = 0; turn < ENTRIES; turn++) {
                e = find(file, d, ANY, e + 1, false);
                if (e < 0) {
                    break;
                }
                int place = entryPlace(d, e);
                int records = (surface[place + 12] & 255) * EXTENT_RECORDS + (surface[place + 15] & 255);
                most = Math.max(most, records);
            }
            return most;
        }

        private int setPlace(int number) {
            fcb[33] = number & 255;
            fcb[34] = number >> 8 & 255;
            fcb[35] = number >> 16 & 255;
            return 0;
        }

        private int readNext() {
            if (fcb[32] == EXTENT_RECORDS) {
                int next = fcb[12] + 1;
                if (next > LAST_EXTENT || openExtent(next) < 0) {
                    return 1;
                }
                fcb[32] = 0;
            }
            return seekRecord();
        }

        /** Behind an answer 0 the data are to be carried, then grow() is due. */
        private int writeNext() {
            if (fcb[32] == EXTENT_RECORDS) {
                closeExtent();
                int next = fcb[12] + 1;
                if (next > LAST_EXTENT || openExtent(next) < 0 && makeExtent(next) < 0) {
                    return 1;
                }
                fcb[32] = 0;
            }
            return placeRecord(false);
        }

        /** Calls 33, 34 and 40. */
        private int goAtPlace(int number) {
            int place = fcb[33] | fcb[34] << 8 | fcb[35] << 16;
            int extent = place / EXTENT_RECORDS;
            if (extent > LAST_EXTENT) {
                return 6;
            }
            int answer = 0;
            if (fcb[12] != extent) {
                if (number != 33) {
                    closeExtent();
                }
                if (openExtent(extent) < 0) {
                    if (number == 33) {
                        answer = 4;
                    } else if (makeExtent(extent) < 0) {
                        answer = 5;
                    }
                }
            }
            fcb[12] = extent;
            fcb[32] = place % EXTENT_RECORDS;
            if (answer != 0) {
                return answer;
            }
            return number == 33 ? seekRecord() : placeRecord(number == 40);
        }

        private int seekRecord() {
            int cr = fcb[32];
            if (cr >= EXTENT_RECORDS || cr >= fcb[15]) {
                return 1;
            }
            int block = fcb[16 + cr / BLOCK_RECORDS];
            if (block == 0 || block > LAST_BLOCK) {
                return 1;
            }
            carried = drive * DRIVE_SIZE + recordAt[block * BLOCK_RECORDS + cr % BLOCK_RECORDS];
            return 0;
        }

        private int placeRecord(boolean cleared) {
            int cr = fcb[32];
            if (cr >= EXTENT_RECORDS) {
                return 1;
            }
            int slot = 16 + cr / BLOCK_RECORDS;
            if (fcb[slot] == 0) {
                fcb[slot] = newBlock(cleared);
            }
            int block = fcb[slot];
            if (block == 0 || block > LAST_BLOCK) {
                return 2;
            }
            carried = drive * DRIVE_SIZE + recordAt[block * BLOCK_RECORDS + cr % BLOCK_RECORDS];
            return 0;
        }

        /** What a record that was written makes of RC and, of call 21, CR. */
        void grow(boolean onward) {
            int cr = fcb[32];
            if (fcb[15] <= cr) {
                fcb[15] = cr + 1;
            }
            if (onward) {
                fcb[32] = cr + 1;
            }
        }

        /** The next record of the file that the command line writes. */
        boolean append(byte[] from, int at) {
            if (writeNext() != 0) {
                return false;
            }
            System.arraycopy(from, at, surface, carried, RECORD);
            grow(true);
            return true;
        }

        /** The least block that is not in use; 0 without one. */
        private int newBlock(boolean cleared) {
            for (int block = FIRST_BLOCK; block < BLOCKS; block++) {
                if (!used[drive * BLOCKS + block]) {
                    used[drive * BLOCKS + block] = true;
                    for (int k = 0; k < BLOCK_RECORDS && cleared; k++) {
                        int place = drive * DRIVE_SIZE + recordAt[block * BLOCK_RECORDS + k];
                        Arrays.fill(surface, place, place + RECORD, (byte) 0);
                    }
                    return block;
                }
            }
            return 0;
        }
    }

    /** Reads a file record by record, extent by extent, as the command line does. */
    private static final class Reader {
        final Files files;
        final int[] file = new int[FCB_SIZE];
        final byte[] record = new byte[RECORD];
        int drive;
        int extent;
        int entry;
        int next;
        int count;

        Reader(Files files) {
            this.files = files;
        }

        /** False when there is no such file. */
        boolean open(int[] name, int d) {
            System.arraycopy(name, 0, file, 0, FCB_SIZE);
            drive = d;
            files.login(d);
            goToExtent(0);
            return entry >= 0;
        }

        private void goToExtent(int number) {
            extent = number;
            next = 0;
            count = 0;
            entry = number > LAST_EXTENT ? -1 : files.find(file, drive, number, 0, false);
            if (entry >= 0) {
                int records = files.surface[files.entryPlace(drive, entry) + 15] & 255;
                count = Math.min(records, EXTENT_RECORDS);
            }
        }

        /** The next record comes; false behind the last one. */
        boolean advance() {
            for (int turn = 0; turn <= LAST_EXTENT && entry >= 0 && next >= count; turn++) {
                goToExtent(extent + 1);
            }
            if (entry < 0 || next >= count) {
                return false;
            }
            int place = files.entryPlace(drive, entry) + 16 + next / BLOCK_RECORDS;
            int block = files.surface[place] & 255;
            if (block == 0 || block > LAST_BLOCK) {
                entry = -1;
                return false;
            }
            int from = drive * DRIVE_SIZE + files.recordAt[block * BLOCK_RECORDS + next % BLOCK_RECORDS];
            System.arraycopy(files.surface, from, record, 0, RECORD);
            next++;
            return true;
        }
    }

    /** The BIOS, the calls and the boots. */
    private static final class Monitor {
        static final int BIOS = 60416;
        static final int LAST_BIOS = BIOS + 3 * 16;
        static final int WARM = BIOS + 3;
        static final int CALLS = 60934;
        static final int DRIVE_TABLES = 61440;
        static final int USE_TABLE = 61472;
        static final int DISK_TABLE = 61504;
        static final int SERVICE_STATES = 50;
        static final int LINE_SIGNS = 127;
        static final int[] DISK_FACTS = {26, 0, 3, 7, 0, 242, 0, 63, 0, 192, 0, 16, 0, 2, 0};

        final Processor processor;
        final Console console;
        final Files files;
        int data;
        int drive;
        int track;
        int sector;
        boolean atCommand;

        Monitor(Processor processor, Console console, Files files) {
            this.processor = processor;
            this.console = console;
            this.files = files;
        }

        static boolean isEntry(int pc) {
            return pc >= BIOS && (pc == CALLS || pc <= LAST_BIOS && (pc - BIOS) % 3 == 0);
        }

        void bootCold() {
            Arrays.fill(processor.store, (byte) 0);
            processor.clearRegisters();
            processor.stopped = false;
            files.shut = 0;
            files.hand = 0;
            files.user = 0;
            drive = 0;
            track = 0;
            sector = 1;
            console.keyCount = 0;
            console.tellLine("62K");
            bootWarm();
        }

        void bootWarm() {
            processor.poke(0, 0xC3);
            processor.pokeWord(1, WARM);
            processor.poke(5, 0xC3);
            processor.pokeWord(6, CALLS);
            files.forgetDrives();
            files.login(files.hand);
            data = DATA;
            goToCommand();
        }

        /** Tells the prompt and begins to read a line. */
        void goToCommand() {
            processor.pc = WARM;
            atCommand = true;
            console.tellLine("");
            console.tell('A' + files.hand);
            if (files.user != 0) {
                console.tellNumber(files.user);
            }
            console.tell('>');
            console.openLine(LINE_SIGNS);
        }

        void tellError(int error) {
            console.tellLine("Bdos Err On ");
            console.tell('A' + files.drive);
            if (error == SELECT) {
                console.tellText(": Select");
            } else if (error == DRIVE_SHUT) {
                console.tellText(": R/O");
            } else {
                console.tellText(": File R/O");
            }
            bootWarm();
        }

        /** What stands at the address that the processor came to; false when it waits. */
        boolean serve() {
            int answer;
            if (processor.pc != CALLS) {
                answer = serveBios((processor.pc - BIOS) / 3);
            } else {
                int number = processor.r[1];
                answer = hasFcb(number) ? callFiles(number) : callBoard(number, processor.pair(1));
                if (answer >= 0) {
                    processor.setPair(2, answer);
                    processor.r[Processor.ACCUMULATOR] = answer & 255;
                    processor.r[0] = answer >> 8;
                }
            }
            if (answer == WAITS) {
                return false;
            }
            processor.spent += SERVICE_STATES;
            if (answer >= 0) {
                processor.pc = processor.pop();
            } else if (answer == COLD_BOOT) {
                bootCold();
            } else if (answer == WARM_BOOT) {
                bootWarm();
            } else {
                tellError(answer);
            }
            return true;
        }

        private int serveBios(int k) {
            int c = processor.r[1];
            int bc = processor.pair(0);
            switch (k) {
                case 0:
                    return COLD_BOOT;
                case 1:
                    return WARM_BOOT;
                case 2:
                    return accumulate(console.status());
                case 3:
                    return console.keyCount == 0 ? WAITS : accumulate(console.takeKey() & 127);
                case 4:
                    console.tell(c & 127);
                    return 0;
                case 7:
                    return accumulate(26);
                case 8:
                    track = 0;
                    return 0;
                case 9:
                    chooseDrive(c);
                    return 0;
                case 10:
                    track = bc;
                    return 0;
                case 11:
                    sector = bc;
                    return 0;
                case 12:
                    data = bc;
                    return 0;
                case 13:
                case 14:
                    return accumulate(carrySector(k == 14));
                case 15:
                    return accumulate(0);
                case 16:
                    processor.setPair(2, bc < SECTORS ? Files.sectorOf(bc) : 0);
                    return 0;
                default:
                    return 0;
            }
        }

        private int accumulate(int value) {
            processor.r[Processor.ACCUMULATOR] = value;
            return 0;
        }

        private void chooseDrive(int number) {
            if (number > 1) {
                processor.setPair(2, 0);
            } else {
                drive = number;
                processor.setPair(2, DRIVE_TABLES + 16 * number);
            }
        }

        private int carrySector(boolean writes) {
            if (!Files.isSector(track, sector)) {
                return 1;
            }
            carryRecord(Files.sectorPlace(drive, track, sector), writes);
            return 0;
        }

        /** Between a place on the drives and the data. */
        private void carryRecord(int place, boolean writes) {
            for (int i = 0; i < RECORD; i++) {
                if (writes) {
                    files.surface[place + i] = (byte) processor.peek(data + i);
                } else {
                    processor.poke(data + i, files.surface[place + i]);
                }
            }
        }

        private static boolean hasFcb(int number) {
            return number >= 15 && number <= 23 || number == 30 || number >= 33 && number <= 36 || number == 40;
        }

        private int callFiles(int number) {
            int at = processor.pair(1);
            for (int k = 0; k < FCB_SIZE; k++) {
                files.fcb[k] = processor.peek(at + k);
            }
            int answer = files.perform(number);
            // The FCB is in memory ahead of the data, which may lie over it.
            putFcb(at);
            if (files.carried < 0) {
                return answer;
            }
            boolean writes = number == 21 || number == 34 || number == 40;
            carryRecord(files.carried, writes);
            if (writes) {
                files.grow(number == 21);
                putFcb(at);
            } else if (number == 20) {
                processor.poke(at + 32, processor.peek(at + 32) + 1);
            }
            return answer;
        }

        private void putFcb(int at) {
            for (int k = 0; k < FCB_SIZE; k++) {
                processor.poke(at + k, files.fcb[k]);
            }
        }

        private int callBoard(int number, int de) {
            int e = de & 255;
            switch (number) {
                case 0:
                    return WARM_BOOT;
                case 1:
                    return console.keyCount == 0 ? WAITS : echoKey();
                case 2:
                    console.tell(e & 127);
                    return 0;
                case 3:
                    return 26;
                case 6:
                    return talkDirectly(e);
                case 7:
                    return processor.peek(3);
                case 8:
                    processor.poke(3, e);
                    return 0;
                case 9:
                    return tellSigns(de);
                case 10:
                    return readBuffer(de);
                case 11:
                    return console.status();
                case 12:
                    return 34;
                default:
                    return callDrives(number, de);
            }
        }

        private int echoKey() {
            int key = console.takeKey() & 127;
            console.tell(key);
            return key;
        }

        private int talkDirectly(int e) {
            if (e == 255) {
                return console.takeKey() & 127;
            }
            if (e == 254) {
                return console.status();
            }
            console.tell(e & 127);
            return 0;
        }

        private int tellSigns(int from) {
            for (int i = 0; i < MEMORY_SIZE; i++) {
                int sign = processor.peek(from + i);
                if (sign == '$') {
                    break;
                }
                console.tell(sign & 127);
                processor.spent++;
            }
            return 0;
        }

        private int readBuffer(int at) {
            if (!console.lineOpen) {
                int most = processor.peek(at);
                if (most == 0) {
                    return 0;
                }
                console.openLine(most);
            }
            int got = console.readLine();
            if (got == LINE_WAITS) {
                return WAITS;
            }
            if (got == LINE_BROKEN) {
                return WARM_BOOT;
            }
            processor.poke(at + 1, console.lineCount);
            for (int i = 0; i < console.lineCount; i++) {
                processor.poke(at + 2 + i, console.line[i]);
            }
            return 0;
        }

        private int callDrives(int number, int de) {
            switch (number) {
                case 13:
                    resetDrives();
                    return 0;
                case 14:
                    return choose(de & 255);
                case 24:
                    return files.logged;
                case 25:
                    return files.hand;
                case 26:
                    data = de;
                    return 0;
                case 27:
                    return showUse();
                case 28:
                    files.shut |= 1 << files.hand;
                    return 0;
                case 29:
                    return files.shut;
                case 31:
                    return showDisk();
                case 32:
                    return chooseUser(de & 255);
                case 37:
                    files.logged &= ~de;
                    files.shut &= ~de;
                    return 0;
                default:
                    return 0;
            }
        }

        private void resetDrives() {
            files.logged = 0;
            files.shut = 0;
            files.hand = 0;
            files.login(0);
            data = DATA;
        }

        private int choose(int number) {
            if (number > 1) {
                files.drive = number;
                return SELECT;
            }
            files.hand = number;
            files.login(number);
            return 0;
        }

        private int chooseUser(int number) {
            if (number == 255) {
                return files.user;
            }
            files.user = number & 31;
            return 0;
        }

        private int showUse() {
            files.login(files.hand);
            for (int i = 0; i < 31; i++) {
                int bits = 0;
                for (int k = 0; k < 8; k++) {
                    int block = 8 * i + k;
                    boolean set = block < BLOCKS && files.used[files.hand * BLOCKS + block];
                    bits = bits * 2 + (set ? 1 : 0);
                }
                processor.poke(USE_TABLE + i, bits);
            }
            return USE_TABLE;
        }

        private int showDisk() {
            for (int i = 0; i < DISK_FACTS.length; i++) {
                processor.poke(DISK_TABLE + i, DISK_FACTS[i]);
            }
            return DISK_TABLE;
        }
    }

    /** The command line: what a line says is done here. */
    private static final class Shell {
        static final String NAMES = "DIR ERA REN TYPE SAVE USER DUMP STAT COPY HEXLOAD";
        static final int COMMANDS = 10;
        /** Their places in NAMES. */
        static final int DIR = 0;
        static final int ERA = 1;
        static final int REN = 2;
        static final int TYPE = 3;
        static final int SAVE = 4;
        static final int USER = 5;
        static final int DUMP = 6;
        static final int STAT = 7;
        static final int COPY = 8;
        static final int HEXLOAD = 9;
        static final String NO_SIGNS = ".:;,=<>*[]";
        static final int LINE_MOST = 127;
        static final int WORDS_KEPT = 2;
        static final int STACK = 58366;

        static final int DONE = 0;
        static final int BAD = 1;
        static final int NO_FILE = 2;
        static final int NO_SPACE = 3;
        static final int EXISTS = 4;
        static final int BAD_HEX = 5;
        static final int BAD_LOAD = 6;
        static final int STARTED = 7;

        final Monitor monitor;
        final Processor processor;
        final Console console;
        final Files files;
        final Reader reader;
        final HexText hexText = new HexText();
        final long[] names = packedWords(NAMES, COMMANDS);
        final int[] line = new int[LINE_MOST];
        /** The words behind the first one, and how many of them stand ahead of the first =. */
        final int[] wordFrom = new int[WORDS_KEPT];
        final int[] wordTo = new int[WORDS_KEPT];
        final int[] first = new int[FCB_SIZE];
        final int[] second = new int[FCB_SIZE];
        int lineCount;
        int firstFrom;
        int firstTo;
        int words;
        int signsOfEqual;
        int aheadOfEqual;
        boolean starred;

        Shell(Monitor monitor) {
            this.monitor = monitor;
            processor = monitor.processor;
            console = monitor.console;
            files = monitor.files;
            reader = new Reader(files);
        }

        /** Reads a line and does what it says; false when it waits for keys. */
        boolean goOn() {
            int got = console.readLine();
            if (got == LINE_WAITS) {
                return false;
            }
            if (got == LINE_BROKEN) {
                monitor.bootWarm();
                return true;
            }
            takeLine();
            int outcome;
            switch (command()) {
                case DIR:
                    outcome = tellDirectory();
                    break;
                case ERA:
                    outcome = erase();
                    break;
                case REN:
                    outcome = rename();
                    break;
                case TYPE:
                    outcome = type();
                    break;
                case SAVE:
                    outcome = save();
                    break;
                case USER:
                    outcome = chooseUser();
                    break;
                case DUMP:
                    outcome = dump();
                    break;
                case STAT:
                    outcome = tellStatus();
                    break;
                case COPY:
                    outcome = copy();
                    break;
                case HEXLOAD:
                    outcome = loadHex();
                    break;
                default:
                    outcome = firstFrom == lineCount ? DONE : chooseDriveOrProgram();
                    break;
            }
            finish(outcome);
            return true;
        }

        private void finish(int outcome) {
            if (outcome < 0) {
                monitor.tellError(outcome);
                return;
            }
            switch (outcome) {
                case BAD:
                    console.tellLine("");
                    for (int i = firstFrom; i < firstTo; i++) {
                        console.tell(line[i]);
                    }
                    console.tell('?');
                    break;
                case NO_FILE:
                    console.tellLine("No file");
                    break;
                case NO_SPACE:
                    console.tellLine("No space");
                    break;
                case EXISTS:
                    console.tellLine("File exists");
                    break;
                case BAD_HEX:
                    console.tellLine("Bad hex");
                    break;
                case BAD_LOAD:
                    console.tellLine("Bad load");
                    break;
                default:
                    break;
            }
            if (outcome != STARTED) {
                monitor.goToCommand();
            }
        }

        /** The line in capitals, and where its words stand. */
        private void takeLine() {
            lineCount = Math.min(console.lineCount, LINE_MOST);
            for (int i = 0; i < lineCount; i++) {
                line[i] = capital(console.line[i]);
            }
            firstFrom = skipSpaces(0);
            firstTo = wordEnd(firstFrom);
            words = 0;
            signsOfEqual = 0;
            aheadOfEqual = 0;
            starred = false;
            int at = firstTo;
            for (int turn = 0; turn < LINE_MOST && at < lineCount; turn++) {
                at = skipSpaces(at);
                if (at < lineCount && line[at] == '=') {
                    aheadOfEqual = signsOfEqual == 0 ? words : aheadOfEqual;
                    signsOfEqual++;
                    at++;
                } else if (at < lineCount) {
                    int to = wordEnd(at);
                    if (words < WORDS_KEPT) {
                        wordFrom[words] = at;
                        wordTo[words] = to;
                    }
                    words++;
                    at = to;
                }
            }
        }

        private int skipSpaces(int from) {
            int at = from;
            while (at < lineCount && line[at] == ' ') {
                at++;
            }
            return at;
        }

        private int wordEnd(int from) {
            int at = from;
            while (at < lineCount && line[at] != ' ' && line[at] != '=') {
                at++;
            }
            return at;
        }

        private int command() {
            if (firstTo - firstFrom > 8) {
                return -1;
            }
            long word = 1;
            for (int i = firstFrom; i < firstTo; i++) {
                word = packed(word, line[i]);
            }
            return indexOfWord(names, COMMANDS, word);
        }

        /** So many words behind the first, and no = among them. */
        private boolean hasWords(int count) {
            return words == count && signsOfEqual == 0;
        }

        /** A FILE word; false when it is BAD, the file has then what stands ahead of the fault. */
        private boolean readFile(int from, int to, int[] file) {
            Arrays.fill(file, 0);
            Arrays.fill(file, 1, 12, ' ');
            int at = from;
            if (to - at >= 2 && line[at + 1] == ':') {
                if (line[at] != 'A' && line[at] != 'B') {
                    return false;
                }
                file[0] = line[at] - 'A' + 1;
                at += 2;
            }
            int k = 1;
            int end = 9;
            for (; at < to; at++) {
                int sign = line[at];
                if (sign == '.' && end == 9) {
                    k = 9;
                    end = 12;
                } else if (sign == '*') {
                    starred = true;
                    Arrays.fill(file, k, end, EVERY);
                    k = end;
                } else if (k >= end || sign <= ' ' || NO_SIGNS.indexOf((char) sign) >= 0) {
                    return false;
                } else {
                    file[k] = sign;
                    k++;
                }
            }
            return from < to;
        }

        private boolean readWord(int index, int[] file) {
            return index < words && index < WORDS_KEPT && readFile(wordFrom[index], wordTo[index], file);
        }

        private static boolean isWild(int[] file) {
            for (int k = 1; k < 12; k++) {
                if (file[k] == EVERY) {
                    return true;
                }
            }
            return false;
        }

        private static boolean isBlank(int[] file, int from, int to) {
            for (int k = from; k < to; k++) {
                if (file[k] != ' ') {
                    return false;
                }
            }
            return true;
        }

        private static void setType(int[] file, String type) {
            for (int k = 0; k < 3 && k < type.length(); k++) {
                file[9 + k] = type.charAt(k);
            }
        }

        private int driveOf(int[] file) {
            return file[0] == 0 ? files.hand : file[0] - 1;
        }

        /** A number of a word of digits; -1 when it is none or above the most. */
        private int readNumber(int index, int most) {
            if (index >= words || index >= WORDS_KEPT) {
                return -1;
            }
            int number = 0;
            for (int i = wordFrom[index]; i < wordTo[index]; i++) {
                if (line[i] < '0' || line[i] > '9') {
                    return -1;
                }
                number = number * 10 + line[i] - '0';
                if (number > most) {
                    return -1;
                }
            }
            return number;
        }

        private void tellName(int place) {
            for (int k = 1; k < 12; k++) {
                if (k == 9) {
                    console.tell(' ');
                }
                console.tell(files.surface[place + k] & 127);
            }
        }

        private int tellDirectory() {
            if (hasWords(0)) {
                Arrays.fill(first, 0);
                Arrays.fill(first, 1, 12, ' ');
            } else if (!hasWords(1) || !readWord(0, first)) {
                return BAD;
            }
            if (isBlank(first, 1, 12)) {
                Arrays.fill(first, 1, 12, EVERY);
            }
            int drive = driveOf(first);
            files.login(drive);
            int shown = 0;
            int e = -1;
            for (int turn = 0; turn < ENTRIES; turn++) {
                e = files.find(first, drive, 0, e + 1, true);
                if (e < 0) {
                    break;
                }
                int place = files.entryPlace(drive, e);
                if ((files.surface[place + 10] & 128) == 0) {
                    beginShown(shown, drive);
                    tellName(place);
                    shown++;
                }
            }
            return shown == 0 ? NO_FILE : DONE;
        }

        private void beginShown(int shown, int drive) {
            if (shown % 4 == 0) {
                console.tellLine("");
                console.tell('A' + drive);
                console.tellText(": ");
            } else {
                console.tellText(" : ");
            }
        }

        private int erase() {
            if (!hasWords(1) || !readWord(0, first)) {
                return BAD;
            }
            System.arraycopy(first, 0, files.fcb, 0, FCB_SIZE);
            int answer = files.perform(19);
            return answer == 255 ? NO_FILE : answer;
        }

        /** FILE = FILE, neither with ? or *. */
        private boolean readTwoFiles() {
            return words == 2 && signsOfEqual == 1 && aheadOfEqual == 1
                && readWord(0, first) && readWord(1, second)
                && !starred && !isWild(first) && !isWild(second);
        }

        private int rename() {
            if (!readTwoFiles()) {
                return BAD;
            }
            int drive = driveOf(first);
            if (second[0] != 0 && second[0] - 1 != drive) {
                return BAD;
            }
            files.login(drive);
            if (files.find(first, drive, ANY, 0, false) >= 0) {
                return EXISTS;
            }
            if (files.find(second, drive, ANY, 0, false) < 0) {
                return NO_FILE;
            }
            System.arraycopy(second, 0, files.fcb, 0, FCB_SIZE);
            System.arraycopy(first, 1, files.fcb, 17, 11);
            files.fcb[0] = drive + 1;
            return Math.min(files.perform(23), DONE);
        }

        /** Opens the one file that the line names. */
        private int openOnly() {
            if (!hasWords(1) || !readWord(0, first) || isWild(first)) {
                return BAD;
            }
            return reader.open(first, driveOf(first)) ? DONE : NO_FILE;
        }

        private int type() {
            int outcome = openOnly();
            if (outcome != DONE) {
                return outcome;
            }
            console.tellLine("");
            boolean ended = false;
            for (int n = 0; n < TURNS_MOST && !ended && reader.advance(); n++) {
                for (int i = 0; i < RECORD && !ended; i++) {
                    ended = reader.record[i] == 26;
                    if (!ended) {
                        console.tell(reader.record[i]);
                        processor.spent++;
                    }
                }
            }
            return DONE;
        }

        private int dump() {
            int outcome = openOnly();
            if (outcome != DONE) {
                return outcome;
            }
            for (int n = 0; n < TURNS_MOST && reader.advance(); n++) {
                for (int i = 0; i < RECORD; i++) {
                    if (i % 16 == 0) {
                        console.tellLine("");
                        console.tellHex(n * RECORD + i, 4);
                    }
                    console.tell(' ');
                    console.tellHex(reader.record[i], 2);
                    processor.spent++;
                }
            }
            return DONE;
        }

        private int chooseUser() {
            int number = readNumber(0, 15);
            if (!hasWords(1) || number < 0) {
                return BAD;
            }
            files.user = number;
            return DONE;
        }

        private int tellStatus() {
            if (hasWords(0)) {
                files.login(files.hand);
                console.tellLine("");
                console.tell('A' + files.hand);
                console.tellText(": ");
                console.tellNumber(files.freeBlocks(files.hand));
                console.tell('k');
                return DONE;
            }
            if (!hasWords(1) || !readWord(0, first)) {
                return BAD;
            }
            int drive = driveOf(first);
            files.login(drive);
            int outcome = NO_FILE;
            int e = -1;
            for (int turn = 0; turn < ENTRIES; turn++) {
                e = files.find(first, drive, 0, e + 1, true);
                if (e < 0) {
                    break;
                }
                tellSize(drive, files.entryPlace(drive, e));
                outcome = DONE;
            }
            return outcome;
        }

        private void tellSize(int drive, int place) {
            for (int k = 1; k < 12; k++) {
                second[k] = files.surface[place + k] & 127;
            }
            console.tellLine("");
            tellName(place);
            console.tell(' ');
            console.tellNumber(files.recordsOf(second, drive));
            console.tell(' ');
            console.tellNumber(blocksOf(drive));
            console.tell('k');
        }

        private int blocksOf(int drive) {
            int count = 0;
            int e = -1;
            for (int turn = 0; turn < ENTRIES; turn++) {
                e = files.find(second, drive, ANY, e + 1, false);
                if (e < 0) {
                    break;
                }
                int place = files.entryPlace(drive, e);
                for (int k = 16; k < ENTRY_SIZE; k++) {
                    count += files.surface[place + k] != 0 ? 1 : 0;
                }
            }
            return count;
        }

        /** What deleting and making a file came to. */
        private static int outcomeOf(int answer) {
            return answer == 255 ? NO_SPACE : Math.min(answer, DONE);
        }

        /** So many records from the program's place on come to the file that was begun. */
        private int writeFromMemory(int records) {
            int outcome = DONE;
            for (int n = 0; n < records && outcome == DONE; n++) {
                if (!files.append(processor.store, PROGRAM + n * RECORD)) {
                    outcome = NO_SPACE;
                }
            }
            files.closeExtent();
            return outcome;
        }

        private int save() {
            int pages = readNumber(0, 255);
            if (!hasWords(2) || pages < 0 || !readWord(1, first)) {
                return BAD;
            }
            int outcome = outcomeOf(files.remake(first));
            return outcome == DONE ? writeFromMemory(2 * pages) : outcome;
        }

        private int copy() {
            if (!readTwoFiles()) {
                return BAD;
            }
            int to = driveOf(first);
            int from = driveOf(second);
            boolean same = to == from;
            for (int k = 1; k < 12; k++) {
                same = same && first[k] == second[k];
            }
            if (same) {
                return BAD;
            }
            if (!reader.open(second, from)) {
                return NO_FILE;
            }
            int outcome = outcomeOf(files.remake(first));
            if (outcome != DONE) {
                return outcome;
            }
            for (int n = 0; n < TURNS_MOST && outcome == DONE && reader.advance(); n++) {
                if (!files.append(reader.record, 0)) {
                    outcome = NO_SPACE;
                }
            }
            files.closeExtent();
            return outcome;
        }

        private int loadHex() {
            if (!hasWords(1) || !readWord(0, first) || isWild(first) || !isBlank(first, 9, 12)) {
                return BAD;
            }
            setType(first, "HEX");
            if (!reader.open(first, driveOf(first))) {
                return NO_FILE;
            }
            hexText.begin();
            boolean ended = false;
            for (int n = 0; n < TURNS_MOST && !ended && reader.advance(); n++) {
                for (int i = 0; i < RECORD && !ended; i++) {
                    ended = reader.record[i] == 26 || !hexText.accept(reader.record[i] & 255);
                }
            }
            if (!hexText.isWhole()) {
                return BAD_HEX;
            }
            System.arraycopy(hexText.image, 0, processor.store, PROGRAM, PROGRAM_SIZE);
            setType(first, "COM");
            int outcome = outcomeOf(files.remake(first));
            return outcome == DONE ? writeFromMemory(hexText.records()) : outcome;
        }

        private int chooseDriveOrProgram() {
            if (!readFile(firstFrom, firstTo, first)) {
                return BAD;
            }
            if (firstTo - firstFrom == 2 && first[0] != 0 && hasWords(0)) {
                files.hand = first[0] - 1;
                files.login(files.hand);
                return DONE;
            }
            if (isWild(first) || isBlank(first, 1, 9) || !isBlank(first, 9, 12)) {
                return BAD;
            }
            setType(first, "COM");
            if (!reader.open(first, driveOf(first))) {
                return BAD;
            }
            for (int n = 0; n < PROGRAM_RECORDS && reader.advance(); n++) {
                System.arraycopy(reader.record, 0, processor.store, PROGRAM + n * RECORD, RECORD);
            }
            if (reader.advance()) {
                return BAD_LOAD;
            }
            handOver();
            return STARTED;
        }

        /** The program gets its words and its stack, and begins. */
        private void handOver() {
            putWord(0, 92);
            putWord(1, 108);
            int count = lineCount - firstTo;
            processor.poke(DATA, count);
            for (int i = 0; i < count; i++) {
                processor.poke(DATA + 1 + i, line[firstTo + i]);
            }
            processor.poke(DATA + 1 + count, 0);
            processor.clearRegisters();
            processor.sp = STACK;
            processor.pokeWord(STACK, 0);
            processor.pc = PROGRAM;
            monitor.data = DATA;
            monitor.atCommand = false;
        }

        private void putWord(int index, int at) {
            if (!readWord(index, first) && index >= words) {
                Arrays.fill(first, 0);
                Arrays.fill(first, 1, 12, ' ');
            }
            for (int k = 0; k < 16; k++) {
                processor.poke(at + k, first[k]);
            }
        }
    }

    /** Reads a HEX text sign by sign, so that no line of it has to be kept. */
    private static final class HexText {
        static final int AT_LINE = 0;
        static final int BEHIND_RETURN = 1;
        static final int AT_COLON = 2;
        static final int IN_LINE = 3;
        static final int WHOLE = 4;
        static final int WRONG = 5;

        final byte[] image = new byte[PROGRAM_SIZE];
        int state;
        int high;
        int index;
        int count;
        int address;
        int kind;
        int sum;
        int top;

        void begin() {
            Arrays.fill(image, (byte) 0);
            state = AT_LINE;
            top = PROGRAM;
        }

        boolean isWhole() {
            return state == WHOLE;
        }

        int records() {
            return (top - PROGRAM + RECORD - 1) / RECORD;
        }

        /** False when nothing more is wanted. */
        boolean accept(int sign) {
            switch (state) {
                case AT_LINE:
                    if (sign == 13) {
                        state = BEHIND_RETURN;
                    } else {
                        beginLine(sign);
                    }
                    break;
                case BEHIND_RETURN:
                    state = sign == 10 ? AT_COLON : WRONG;
                    break;
                case AT_COLON:
                    beginLine(sign);
                    break;
                default:
                    acceptDigit(sign);
                    break;
            }
            return state < WHOLE;
        }

        private void beginLine(int sign) {
            state = sign == ':' ? IN_LINE : WRONG;
            high = -1;
            index = 0;
            sum = 0;
        }

        private void acceptDigit(int sign) {
            int digit = DIGITS.indexOf((char) sign);
            if (digit < 0) {
                state = WRONG;
            } else if (high < 0) {
                high = digit;
            } else {
                acceptByte(high * 16 + digit);
                high = -1;
            }
        }

        private void acceptByte(int value) {
            sum += value;
            if (index == 0) {
                count = value;
            } else if (index == 1) {
                address = value << 8;
            } else if (index == 2) {
                address += value;
            } else if (index == 3) {
                kind = value;
                state = kind == 0 || kind == 1 && count == 0 ? IN_LINE : WRONG;
            } else if (index < 4 + count) {
                keep(value);
            } else if ((sum & 255) != 0) {
                state = WRONG;
            } else {
                state = kind == 1 ? WHOLE : AT_LINE;
            }
            index++;
        }

        private void keep(int value) {
            if (address < PROGRAM || address >= PROGRAM_END) {
                state = WRONG;
                return;
            }
            image[address - PROGRAM] = (byte) value;
            address++;
            top = Math.max(top, address);
        }
    }

    /** The names of the codes, for the assembler and the lister. */
    private static final class Codes {
        /** HLT stands ahead of MOV, whose pattern has it too. */
        static final String NAMES =
            "HLT MOV MVI LXI INX DCX DAD STAX LDAX SHLD LHLD STA LDA INR DCR ADD ADC SUB SBB ANA XRA ORA CMP ADI ACI SUI SBI ANI XRI ORI CPI RLC RRC RAL RAR DAA CMA STC CMC JMP JNZ JZ JNC JC JPO JPE JP JM CALL CNZ CZ CNC CC CPO CPE CP CM RET RNZ RZ RNC RC RPO RPE RP RM RST PUSH POP XTHL XCHG PCHL SPHL OUT IN DI EI NOP ORG EQU DB DW DS END";
        static final int[] CODES = {
            0x76, 0x40, 0x06, 0x01, 0x03, 0x0B, 0x09, 0x02, 0x0A, 0x22, 0x2A, 0x32, 0x3A, 0x04, 0x05,
            0x80, 0x88, 0x90, 0x98, 0xA0, 0xA8, 0xB0, 0xB8, 0xC6, 0xCE, 0xD6, 0xDE, 0xE6, 0xEE, 0xF6, 0xFE,
            0x07, 0x0F, 0x17, 0x1F, 0x27, 0x2F, 0x37, 0x3F, 0xC3, 0xC2, 0xCA, 0xD2, 0xDA, 0xE2, 0xEA, 0xF2, 0xFA,
            0xCD, 0xC4, 0xCC, 0xD4, 0xDC, 0xE4, 0xEC, 0xF4, 0xFC, 0xC9, 0xC0, 0xC8, 0xD0, 0xD8, 0xE0, 0xE8, 0xF0, 0xF8,
            0xC7, 0xC5, 0xC1, 0xE3, 0xEB, 0xE9, 0xF9, 0xD3, 0xDB, 0xF3, 0xFB, 0x00, 0, 0, 0, 0, 0, 0};
        static final int[] KINDS = {
            0, 1, 2, 3, 4, 4, 4, 5, 5, 6, 6, 6, 6, 7, 7,
            8, 8, 8, 8, 8, 8, 8, 8, 9, 9, 9, 9, 9, 9, 9, 9,
            0, 0, 0, 0, 0, 0, 0, 0, 6, 6, 6, 6, 6, 6, 6, 6, 6,
            6, 6, 6, 6, 6, 6, 6, 6, 6, 0, 0, 0, 0, 0, 0, 0, 0, 0,
            10, 11, 11, 0, 0, 0, 0, 9, 9, 0, 0, 0, 12, 13, 14, 15, 16, 17};
        static final int COUNT = 84;
        static final int PLAIN = 0;
        static final int MOVE = 1;
        static final int INTO_BYTE = 2;
        static final int INTO_PAIR = 3;
        static final int PAIR = 4;
        static final int SHORT_PAIR = 5;
        static final int ADDRESS = 6;
        static final int TARGET = 7;
        static final int SOURCE = 8;
        static final int BYTE = 9;
        static final int RESTART = 10;
        static final int STACK_PAIR = 11;
        static final int ORG = 12;
        static final int EQU = 13;
        static final int DB = 14;
        static final int DW = 15;
        static final int DS = 16;
        static final int END = 17;
        /** By kind: how many bytes, and which bits of the code tell the operation. */
        static final int[] SIZES = {1, 1, 2, 3, 1, 1, 3, 1, 1, 2, 1, 1};
        static final int[] MASKS = {0xFF, 0xC0, 0xC7, 0xCF, 0xCF, 0xEF, 0xFF, 0xC7, 0xF8, 0xFF, 0xC7, 0xCF};
        static final String REGISTERS = "BCDEHLMA";
        static final String PAIRS = "BDH";
        static final long SP = (128L + 'S') * 128 + 'P';
        static final long PSW = ((128L + 'P') * 128 + 'S') * 128 + 'W';
    }

    /** Turns a text into bytes in two passes over its lines. */
    private static final class Assembler {
        static final int LABELS_MOST = 100;
        static final int DEPTH_MOST = 100;
        static final int QUOTE = '\'';
        static final int NONE = -1;
        static final int WORD_SIGNS = 8;
        static final long NO_LABEL = 0;
        /** What a number is for. */
        static final int ONE_WORD = 0;
        static final int ONE_BYTE = 1;
        static final int UP_TO_SEVEN = 2;
        static final int TOLD_ABOVE = 3;

        final byte[] text;
        final byte[] image;
        final long[] names = packedWords(Codes.NAMES, Codes.COUNT);
        /** Of letters and digits what they are as capitals; 0 of all other signs. */
        final int[] capitals = new int[256];
        final long[] labels = new long[LABELS_MOST];
        final int[] values = new int[LABELS_MOST];
        /** What waits outside of the parentheses that are open: sum, term and how they are joined. */
        final int[] outside = new int[3 * DEPTH_MOST];
        int labelCount;
        long label;
        int length;
        int at;
        int fault;
        int address;
        int top;
        int lineAddress;
        int labelValue;
        boolean secondPass;
        boolean ended;
        long word;
        int wordFrom;
        int wordLength;

        Assembler(byte[] text, byte[] image) {
            this.text = text;
            this.image = image;
            for (int sign = '0'; sign <= 'z'; sign++) {
                int big = capital(sign);
                capitals[sign] = sign <= '9' || big >= 'A' && big <= 'Z' ? big : 0;
            }
        }

        /** How many bytes came, or -1 less the fault's place. */
        int translate(int count) {
            length = Math.min(count, text.length);
            labelCount = 0;
            fault = NONE;
            for (int pass = 1; pass <= 2 && fault == NONE; pass++) {
                secondPass = pass == 2;
                at = 0;
                address = PROGRAM;
                top = PROGRAM;
                ended = false;
                for (int line = 0; line <= TAPE_MOST && at < length && fault == NONE && !ended; line++) {
                    readLabel();
                    readOperation();
                    finishLine();
                }
            }
            return fault == NONE ? top - PROGRAM : -1 - fault;
        }

        private void readLabel() {
            lineAddress = address;
            labelValue = address;
            label = NO_LABEL;
            if (!isLetter()) {
                return;
            }
            readWord();
            label = word;
            if (wordLength > WORD_SIGNS) {
                fail(wordFrom + WORD_SIGNS);
            } else if (!secondPass && (labelCount >= LABELS_MOST || indexOfWord(labels, labelCount, word) >= 0)) {
                fail(wordFrom);
            }
            if (here() == ':') {
                at++;
            }
        }

        private void readOperation() {
            skipBlanks();
            if (fault != NONE || !isLetter()) {
                return;
            }
            readWord();
            int from = wordFrom;
            int index = wordLength > WORD_SIGNS ? -1 : indexOfWord(names, Codes.COUNT, word);
            if (index < 0) {
                fail(from);
                return;
            }
            int kind = Codes.KINDS[index];
            switch (kind) {
                case Codes.ORG:
                    readOrigin();
                    break;
                case Codes.EQU:
                    if (label == NO_LABEL) {
                        fail(from);
                    }
                    labelValue = readNumber(TOLD_ABOVE);
                    break;
                case Codes.DB:
                case Codes.DW:
                    readItems(kind, from);
                    break;
                case Codes.DS:
                    readSpace();
                    break;
                case Codes.END:
                    ended = true;
                    break;
                default:
                    readInstruction(kind, Codes.CODES[index], from);
                    break;
            }
        }

        /** The label is told only here: its own line does not stand above itself. */
        private void finishLine() {
            if (label != NO_LABEL && !secondPass && labelCount < LABELS_MOST) {
                labels[labelCount] = label;
                values[labelCount] = labelValue;
                labelCount++;
            }
            if (ended) {
                return;
            }
            skipBlanks();
            if (here() == ';') {
                while (at < length && text[at] != 10) {
                    at++;
                }
            }
            if (here() == 10) {
                at++;
            } else if (at < length) {
                fail(at);
            }
        }

        /** The first fault counts. */
        private void fail(int place) {
            if (fault == NONE) {
                fault = place;
            }
        }

        private int signAt(int place) {
            return place < length ? text[place] & 255 : NONE;
        }

        private int here() {
            return at < length ? text[at] & 255 : NONE;
        }

        private boolean isLetter() {
            return at < length && capitals[text[at] & 255] >= 'A';
        }

        private void skipBlanks() {
            while (at < length && (text[at] == ' ' || text[at] == 9
                || text[at] == 13 && at + 1 < length && text[at + 1] == 10)) {
                at++;
            }
        }

        /** Letters and digits; of a word with more signs than eight only these are kept. */
        private void readWord() {
            word = 1;
            wordFrom = at;
            while (at < length && capitals[text[at] & 255] != 0) {
                if (at - wordFrom < WORD_SIGNS) {
                    word = word * 128 + capitals[text[at] & 255];
                }
                at++;
            }
            wordLength = at - wordFrom;
        }

        private void readInstruction(int kind, int base, int from) {
            int code = base;
            int value = 0;
            switch (kind) {
                case Codes.MOVE:
                    code |= readMove();
                    break;
                case Codes.INTO_BYTE:
                    code |= readRegister() << 3;
                    readComma();
                    value = readNumber(ONE_BYTE);
                    break;
                case Codes.INTO_PAIR:
                    code |= readPair(kind) << 4;
                    readComma();
                    value = readNumber(ONE_WORD);
                    break;
                case Codes.PAIR:
                case Codes.SHORT_PAIR:
                case Codes.STACK_PAIR:
                    code |= readPair(kind) << 4;
                    break;
                case Codes.ADDRESS:
                    value = readNumber(ONE_WORD);
                    break;
                case Codes.TARGET:
                    code |= readRegister() << 3;
                    break;
                case Codes.SOURCE:
                    code |= readRegister();
                    break;
                case Codes.BYTE:
                    value = readNumber(ONE_BYTE);
                    break;
                case Codes.RESTART:
                    code |= (readNumber(UP_TO_SEVEN) & 7) << 3;
                    break;
                default:
                    break;
            }
            int size = Codes.SIZES[kind];
            if (fits(size, from)) {
                put(code);
                if (size > 1) {
                    put(value);
                }
                if (size > 2) {
                    put(value >> 8);
                }
            }
        }

        private int readMove() {
            int to = readRegister();
            readComma();
            int from = readRegister();
            if (to == Processor.AT_HL && from == Processor.AT_HL) {
                fail(wordFrom);
            }
            return to << 3 | from;
        }

        private int readRegister() {
            skipBlanks();
            readWord();
            int index = wordLength == 1 ? Codes.REGISTERS.indexOf((char) (word & 127)) : -1;
            if (index < 0) {
                fail(wordFrom);
                return 0;
            }
            return index;
        }

        private int readPair(int kind) {
            skipBlanks();
            readWord();
            int index = -1;
            if (wordLength == 1) {
                index = Codes.PAIRS.indexOf((char) (word & 127));
            } else if (word == (kind == Codes.STACK_PAIR ? Codes.PSW : Codes.SP)) {
                index = 3;
            }
            if (index < 0 || kind == Codes.SHORT_PAIR && index > 1) {
                fail(wordFrom);
                return 0;
            }
            return index;
        }

        private void readComma() {
            skipBlanks();
            if (here() == ',') {
                at++;
            } else {
                fail(at);
            }
        }

        private boolean fits(int count, int from) {
            if (address + count > PROGRAM_END) {
                fail(from);
            }
            return fault == NONE;
        }

        /** A byte comes; those ahead of it that none told are 0. */
        private void put(int value) {
            if (secondPass) {
                clearUpTo(address);
                image[address - PROGRAM] = (byte) value;
            }
            address++;
            top = address;
        }

        private void clearUpTo(int end) {
            if (secondPass && end > top) {
                Arrays.fill(image, top - PROGRAM, end - PROGRAM, (byte) 0);
            }
        }

        private void readOrigin() {
            skipBlanks();
            int from = at;
            int value = readNumber(TOLD_ABOVE);
            if (value < address || value > PROGRAM_END) {
                fail(from);
            } else {
                address = value;
                labelValue = value;
            }
        }

        private void readSpace() {
            skipBlanks();
            int from = at;
            int value = readNumber(TOLD_ABOVE);
            if (fits(value, from) && value > 0) {
                clearUpTo(address + value);
                address += value;
                top = address;
            }
        }

        private void readItems(int kind, int from) {
            boolean more = true;
            for (int n = 0; n <= TAPE_MOST && more && fault == NONE; n++) {
                skipBlanks();
                if (kind == Codes.DW) {
                    int value = readNumber(ONE_WORD);
                    if (fits(2, from)) {
                        put(value);
                        put(value >> 8);
                    }
                } else if (here() != QUOTE || !readText(from)) {
                    int value = readNumber(ONE_BYTE);
                    if (fits(1, from)) {
                        put(value);
                    }
                }
                skipBlanks();
                more = here() == ',';
                if (more) {
                    at++;
                }
            }
        }

        /** A text; false, nothing read, when it has one sign and so is a number. */
        private boolean readText(int from) {
            int signs = 0;
            int place = at + 1;
            boolean open = true;
            while (place < length && open) {
                if (text[place] == QUOTE && signAt(place + 1) != QUOTE || text[place] < 32 || text[place] > 126) {
                    open = false;
                } else {
                    place += text[place] == QUOTE ? 2 : 1;
                    signs++;
                }
            }
            if (signAt(place) != QUOTE || signs == 0) {
                fail(place);
                return true;
            }
            if (signs == 1) {
                return false;
            }
            if (fits(signs, from)) {
                putText(place);
            }
            return true;
        }

        private void putText(int end) {
            at++;
            while (at < end) {
                put(text[at]);
                at += text[at] == QUOTE ? 2 : 1;
            }
            at = end + 1;
        }

        /** An expression, of which the use tells what it may be. */
        private int readNumber(int use) {
            skipBlanks();
            int from = at;
            int depth = 0;
            int sum = 0;
            int term = 0;
            int joint = 0;
            for (int turn = 0; turn <= TAPE_MOST && fault == NONE; turn++) {
                int negative = readSigns();
                if (here() == '(') {
                    if (depth == DEPTH_MOST) {
                        fail(at);
                        return 0;
                    }
                    outside[3 * depth] = sum;
                    outside[3 * depth + 1] = term;
                    outside[3 * depth + 2] = joint | negative << 8;
                    depth++;
                    sum = 0;
                    term = 0;
                    joint = 0;
                    at++;
                    continue;
                }
                int value = signed(readPart(use == TOLD_ABOVE || secondPass), negative);
                for (int closed = 0; closed <= DEPTH_MOST; closed++) {
                    term = joined(term, joint & 127, value);
                    skipBlanks();
                    int sign = here();
                    if (sign == '*' || sign == '/') {
                        joint = joint & 128 | sign;
                        break;
                    }
                    sum = sum + signed(term, joint >> 7) & WORD;
                    if (sign == '+' || sign == '-') {
                        joint = sign == '-' ? 128 : 0;
                        break;
                    }
                    if (depth == 0) {
                        return checked(sum, use, from);
                    }
                    if (sign != ')') {
                        fail(at);
                        return 0;
                    }
                    at++;
                    depth--;
                    value = signed(sum, outside[3 * depth + 2] >> 8);
                    sum = outside[3 * depth];
                    term = outside[3 * depth + 1];
                    joint = outside[3 * depth + 2] & 255;
                }
                at++;
            }
            return 0;
        }

        private int checked(int value, int use, int from) {
            boolean high = use == ONE_BYTE && value > 255 && value < 65280 || use == UP_TO_SEVEN && value > 7;
            if (secondPass && high) {
                fail(from);
            }
            return value;
        }

        /** The signs ahead of a part: 1 when it is to be taken negative. */
        private int readSigns() {
            int negative = 0;
            skipBlanks();
            while (at < length && (text[at] == '+' || text[at] == '-')) {
                negative ^= text[at] == '-' ? 1 : 0;
                at++;
                skipBlanks();
            }
            return negative;
        }

        private static int signed(int value, int negative) {
            return (negative == 0 ? value : -value) & WORD;
        }

        private static int joined(int term, int joint, int value) {
            if (joint == '*') {
                return term * value & WORD;
            }
            if (joint == '/') {
                return value == 0 ? 0 : term / value;
            }
            return value;
        }

        /** A part of an expression; strict: a label that is not there is a fault now. */
        private int readPart(boolean strict) {
            int sign = here();
            if (sign == QUOTE) {
                return readSign();
            }
            if (sign == '$') {
                at++;
                return lineAddress;
            }
            readWord();
            if (wordLength == 0) {
                fail(at);
                return 0;
            }
            if (sign <= '9') {
                return digitsOfWord();
            }
            int index = wordLength > WORD_SIGNS ? -1 : indexOfWord(labels, labelCount, word);
            if (index < 0) {
                if (strict) {
                    fail(wordFrom);
                }
                return 0;
            }
            return values[index];
        }

        private int digitsOfWord() {
            int base = 10;
            int end = at - 1;
            switch (capitals[signAt(end) & 255]) {
                case 'H':
                    base = 16;
                    break;
                case 'O':
                case 'Q':
                    base = 8;
                    break;
                case 'B':
                    base = 2;
                    break;
                case 'D':
                    break;
                default:
                    end = at;
                    break;
            }
            int value = 0;
            for (int i = wordFrom; i < end; i++) {
                int sign = capitals[text[i] & 255];
                int digit = sign <= '9' ? sign - '0' : sign - 'A' + 10;
                if (digit >= base) {
                    fail(i);
                    return 0;
                }
                value = value * base + digit & WORD;
            }
            return value;
        }

        /** One sign in ' '. */
        private int readSign() {
            int place = at + 1;
            int sign = signAt(place);
            if (sign < 32 || sign > 126 || sign == QUOTE && signAt(place + 1) != QUOTE) {
                fail(place);
                return 0;
            }
            place += sign == QUOTE ? 2 : 1;
            if (signAt(place) != QUOTE) {
                fail(place);
            }
            at = place + 1;
            return sign;
        }
    }

    /** Tells a code as the assembler has it. */
    private static final class Lister {
        final byte[] store;
        final byte[] text;
        int count;

        Lister(byte[] store, byte[] text) {
            this.store = store;
            this.text = text;
        }

        int tellCode(int at) {
            count = 0;
            int code = peek(at);
            int kind = tellName(code);
            switch (kind) {
                case Codes.MOVE:
                    tellRegister(code >> 3);
                    tell(',');
                    tellRegister(code);
                    break;
                case Codes.INTO_BYTE:
                    tellRegister(code >> 3);
                    tell(',');
                    tellByte(peek(at + 1));
                    break;
                case Codes.INTO_PAIR:
                    tellPair(kind, code >> 4 & 3);
                    tell(',');
                    tellWord(at + 1);
                    break;
                case Codes.PAIR:
                case Codes.SHORT_PAIR:
                case Codes.STACK_PAIR:
                    tellPair(kind, code >> 4 & 3);
                    break;
                case Codes.ADDRESS:
                    tellWord(at + 1);
                    break;
                case Codes.TARGET:
                    tellRegister(code >> 3);
                    break;
                case Codes.SOURCE:
                    tellRegister(code);
                    break;
                case Codes.BYTE:
                    tellByte(peek(at + 1));
                    break;
                case Codes.RESTART:
                    tell('0' + (code >> 3 & 7));
                    break;
                case Codes.DB:
                    tellByte(code);
                    break;
                default:
                    break;
            }
            return count;
        }

        private int peek(int at) {
            return store[at & WORD] & 255;
        }

        private void tell(int sign) {
            if (count < text.length) {
                text[count] = (byte) sign;
                count++;
            }
        }

        private void tellText(String signs) {
            for (int i = 0; i < signs.length(); i++) {
                tell(signs.charAt(i));
            }
        }

        /** The name, and S where operands follow: the kind. A code that no name has is a byte. */
        private int tellName(int code) {
            for (int index = 0; index < Codes.COUNT && Codes.KINDS[index] < Codes.ORG; index++) {
                int kind = Codes.KINDS[index];
                if ((code & Codes.MASKS[kind]) == Codes.CODES[index]) {
                    tellNameAt(index);
                    if (kind != Codes.PLAIN) {
                        tell(' ');
                    }
                    return kind;
                }
            }
            tellText("DB ");
            return Codes.DB;
        }

        private void tellNameAt(int index) {
            int at = 0;
            for (int passed = 0; passed < index && at < Codes.NAMES.length(); at++) {
                passed += Codes.NAMES.charAt(at) == ' ' ? 1 : 0;
            }
            for (; at < Codes.NAMES.length() && Codes.NAMES.charAt(at) != ' '; at++) {
                tell(Codes.NAMES.charAt(at));
            }
        }

        private void tellRegister(int number) {
            tell(Codes.REGISTERS.charAt(number & 7));
        }

        private void tellPair(int kind, int number) {
            if (number < 3) {
                tell(Codes.PAIRS.charAt(number));
            } else {
                tellText(kind == Codes.STACK_PAIR ? "PSW" : "SP");
            }
        }

        private void tellByte(int value) {
            tellHex(value, 4);
        }

        private void tellWord(int at) {
            tellHex(peek(at) | peek(at + 1) << 8, 12);
        }

        private void tellHex(int value, int highest) {
            if ((value >> highest & 15) > 9) {
                tell('0');
            }
            for (int shift = highest; shift >= 0; shift -= 4) {
                tell(DIGITS.charAt(value >> shift & 15));
            }
            tell('H');
        }
    }
}
