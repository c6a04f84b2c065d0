/** Promises 6 to 8 as far as they are the processor's: codes, flags, states and ports. */
public final class ProcessorTest {
    private static MonitorBoard board;
    private static int uses = 1000;

    public static void main(String[] args) {
        states();
        sums();
        steps();
        decimal();
        turns();
        allTurns();
        pairs();
        moves();
        branches();
        stack();
        ports();
        Kit.finish();
    }

    /** A fresh board now and then: an object is used for 512 calls. */
    private static MonitorBoard fresh() {
        uses++;
        if (uses > 40) {
            board = new MonitorBoard();
            uses = 0;
        }
        return board;
    }

    /** Runs codes at 256 with A, flags and HL given; a HLT stands behind them. */
    private static void execute(int a, int flags, int hl, int... codes) {
        MonitorBoard b = fresh();
        int[] all = new int[codes.length + 12];
        int[] ahead = {0x31, 0, 0x30, 0x11, flags, a, 0xD5, 0xF1, 0x21, hl & 255, hl >> 8};
        System.arraycopy(ahead, 0, all, 0, 11);
        System.arraycopy(codes, 0, all, 11, codes.length);
        all[all.length - 1] = 0x76;
        Kit.put(b, 256, all);
        b.jump(256);
        Kit.due("stops", b.run(1000), 2);
    }

    private static int cost(int... codes) {
        execute(0, 0x40, 0x1000, 0);
        uses = 0;
        long before = board.states();
        execute(0, 0x40, 0x1000, codes);
        return (int) (board.states() - before - (10 + 10 + 11 + 10 + 10 + 7));
    }

    /** The states of each code that goes on behind itself: Z is 1, other flags are 0, HL 1000H. */
    private static void states() {
        Kit.due("NOP", cost(0), 4);
        for (int code : new int[] {0x08, 0x10, 0x18, 0x20, 0x28, 0x30, 0x38, 0x07, 0x0F, 0x17, 0x1F, 0x27, 0x2F,
            0x37, 0x3F, 0xEB, 0xF3, 0xFB, 0x80, 0x8F, 0x91, 0xA5, 0xBF}) {
            Kit.due("code " + code, cost(code), 4);
        }
        for (int code : new int[] {0x40, 0x7F, 0x53, 0x03, 0x0B, 0x33, 0x3B, 0x04, 0x05, 0x3C, 0x3D, 0xF9}) {
            Kit.due("code " + code, cost(code), 5);
        }
        for (int code : new int[] {0x46, 0x7E, 0x77, 0x70, 0x02, 0x12, 0x0A, 0x1A, 0x86, 0x9E, 0xBE}) {
            Kit.due("code " + code, cost(code), 7);
        }
        for (int code : new int[] {0x06, 0x3E, 0xC6, 0xCE, 0xD6, 0xDE, 0xE6, 0xEE, 0xF6, 0xFE}) {
            Kit.due("code " + code, cost(code, 5), 7);
        }
        Kit.due("MVI M", cost(0x36, 5), 10);
        Kit.due("INR M", cost(0x34), 10);
        Kit.due("DCR M", cost(0x35), 10);
        Kit.due("LXI", cost(0x01, 5, 5), 10);
        Kit.due("DAD", cost(0x29), 10);
        Kit.due("SHLD", cost(0x22, 0, 0x20), 16);
        Kit.due("LHLD", cost(0x2A, 0, 0x20), 16);
        Kit.due("STA", cost(0x32, 0, 0x20), 13);
        Kit.due("LDA", cost(0x3A, 0, 0x20), 13);
        Kit.due("PUSH", cost(0xC5), 11);
        Kit.due("POP", cost(0xC1), 10);
        Kit.due("XTHL", cost(0xE3), 18);
        Kit.due("OUT", cost(0xD3, 9), 10);
        Kit.due("IN", cost(0xDB, 9), 10);
        int next = 256 + 11 + 3;
        Kit.due("JMP", cost(0xC3, next & 255, next >> 8), 10);
        Kit.due("its twin", cost(0xCB, next & 255, next >> 8), 10);
        Kit.due("JZ", cost(0xCA, next & 255, next >> 8), 10);
        Kit.due("JNZ", cost(0xC2, 0, 0), 10);
        Kit.due("CALL", cost(0xCD, next & 255, next >> 8), 17);
        for (int code : new int[] {0xDD, 0xED, 0xFD, 0xCC}) {
            Kit.due("as CALL " + code, cost(code, next & 255, next >> 8), 17);
        }
        Kit.due("CNZ", cost(0xC4, 0, 0), 11);
        Kit.due("RNZ", cost(0xC0), 5);
        int behind = 256 + 11 + 5;
        Kit.due("RET", cost(0x01, behind & 255, behind >> 8, 0xC5, 0xC9), 10 + 11 + 10);
        Kit.due("its twin", cost(0x01, behind & 255, behind >> 8, 0xC5, 0xD9), 10 + 11 + 10);
        Kit.due("RZ", cost(0x01, behind & 255, behind >> 8, 0xC5, 0xC8), 10 + 11 + 11);
        int target = 256 + 11 + 4;
        Kit.due("PCHL", cost(0x21, target & 255, target >> 8, 0xE9), 10 + 5);
    }

    private static int parity(int value) {
        int bits = 0;
        for (int k = 0; k < 8; k++) {
            bits += value >> k & 1;
        }
        return bits % 2 == 0 ? 4 : 0;
    }

    private static int shape(int value) {
        return (value >= 128 ? 128 : 0) + (value == 0 ? 64 : 0) + parity(value) + 2;
    }

    private static void sums() {
        int[] some = {0, 1, 7, 8, 9, 15, 16, 0x2A, 0x55, 0x7F, 0x80, 0x88, 0x9A, 0xF0, 0xF8, 0xFF};
        for (int operation = 0; operation < 8; operation++) {
            for (int a : some) {
                for (int other : some) {
                    for (int carry = 0; carry < 2; carry++) {
                        sum(operation, a, other, carry);
                    }
                }
            }
        }
    }

    private static void sum(int operation, int a, int other, int carry) {
        int in = operation == 1 || operation == 3 ? carry : 0;
        int value;
        int half;
        int out = 0;
        if (operation < 2) {
            value = (a + other + in) % 256;
            half = a % 16 + other % 16 + in >= 16 ? 16 : 0;
            out = a + other + in >= 256 ? 1 : 0;
        } else if (operation < 4 || operation == 7) {
            value = (a - other - in + 512) % 256;
            half = a % 16 < other % 16 + in ? 0 : 16;
            out = a < other + in ? 1 : 0;
        } else if (operation == 4) {
            value = a & other;
            half = (a / 8 + other / 8) % 2 == 1 || (a / 8 % 2 == 1 && other / 8 % 2 == 1) ? 16 : 0;
        } else {
            value = operation == 5 ? a ^ other : a | other;
            half = 0;
        }
        int due = operation == 7 ? a : value;
        String what = "operation " + operation + " of " + a + " and " + other + " with " + carry;
        int before = other % 2 == 0 ? 0xD4 : 0;
        execute(a, carry | before, 0x1000, 0xC6 | operation << 3, other);
        Kit.due(what, board.register(7), due);
        Kit.due("flags of " + what, board.register(6), shape(value) + half + out);
        execute(a, carry | before, 0x1000, 0x36, other, 0x86 | operation << 3);
        Kit.due(what + " of M", board.register(7), due);
        Kit.due("flags of " + what + " of M", board.register(6), shape(value) + half + out);
    }

    private static void steps() {
        for (int value = 0; value < 256; value += value % 16 < 14 && value % 16 > 1 ? 3 : 1) {
            for (int carry = 0; carry < 2; carry++) {
                int up = (value + 1) % 256;
                int down = (value + 255) % 256;
                execute(value, carry | 0xD4, 0, 0x3C);
                Kit.due("INR " + value, board.register(7), up);
                Kit.due("its flags", board.register(6), shape(up) + (up % 16 == 0 ? 16 : 0) + carry);
                execute(value, carry | 0xD4, 0, 0x3D);
                Kit.due("DCR " + value, board.register(7), down);
                Kit.due("its flags", board.register(6), shape(down) + (down % 16 == 15 ? 0 : 16) + carry);
            }
        }
        execute(0, 0, 0x1234, 0x36, 0xFF, 0x34);
        Kit.due("INR M", board.memory(0x1234), 0);
        execute(0, 0, 0x1234, 0x36, 0x00, 0x35);
        Kit.due("DCR M", board.memory(0x1234), 255);
    }

    private static void decimal() {
        for (int a = 0; a < 256; a += 3) {
            for (int in : new int[] {0, 1, 16, 17}) {
                boolean six = a % 16 > 9 || in >= 16;
                boolean ninety = a > 0x99 || in % 2 == 1;
                int value = (a + (six ? 6 : 0) + (ninety ? 0x60 : 0)) % 256;
                int half = six && a % 16 >= 10 ? 16 : 0;
                execute(a, in, 0, 0x27);
                Kit.due("DAA " + a + " " + in, board.register(7), value);
                Kit.due("its flags", board.register(6), shape(value) + half + (ninety ? 1 : 0));
            }
        }
    }

    private static void turns() {
        int[][] due = {
            {0x07, 0x81, 0, 0x03, 1}, {0x07, 0x40, 1, 0x80, 0}, {0x0F, 0x81, 0, 0xC0, 1}, {0x0F, 0x02, 1, 0x01, 0},
            {0x17, 0x81, 0, 0x02, 1}, {0x17, 0x01, 1, 0x03, 0}, {0x1F, 0x81, 0, 0x40, 1}, {0x1F, 0x80, 1, 0xC0, 0},
            {0x2F, 0x5A, 1, 0xA5, 1}, {0x2F, 0x5A, 0, 0xA5, 0}, {0x37, 9, 0, 9, 1}, {0x37, 9, 1, 9, 1},
            {0x3F, 9, 0, 9, 1}, {0x3F, 9, 1, 9, 0}};
        for (int[] d : due) {
            execute(d[1], d[2] | 0xD4, 0, d[0]);
            Kit.due("code " + d[0] + " of " + d[1], board.register(7), d[3]);
            Kit.due("its flags", board.register(6), 0xD6 | d[4]);
        }
    }

    /** The four turns of every byte, with CY and without. */
    private static void allTurns() {
        for (int a = 0; a < 256; a += a % 8 == 0 ? 1 : 7) {
            for (int carry = 0; carry < 2; carry++) {
                turn(0x07, a, carry, a * 2 % 256 + a / 128, a / 128);
                turn(0x0F, a, carry, a / 2 + a % 2 * 128, a % 2);
                turn(0x17, a, carry, a * 2 % 256 + carry, a / 128);
                turn(0x1F, a, carry, a / 2 + carry * 128, a % 2);
            }
        }
    }

    private static void turn(int code, int a, int carry, int due, int out) {
        execute(a, carry, 0, code);
        Kit.due("code " + code + " of " + a, board.register(7), due);
        Kit.due("its flags", board.register(6), 2 + out);
    }

    private static int pair(int p) {
        return p == 3 ? board.register(8) : board.register(2 * p) << 8 | board.register(2 * p + 1);
    }

    private static void pairs() {
        for (int p = 0; p < 4; p++) {
            execute(0, 0xD5, 0, 0x01 | p << 4, 0xFF, 0xFF, 0x03 | p << 4);
            Kit.due("INX " + p, pair(p), 0);
            Kit.due("no flags", board.register(6), 0xD7);
            execute(0, 0, 0, 0x01 | p << 4, 0, 0, 0x0B | p << 4);
            Kit.due("DCX " + p, pair(p), 0xFFFF);
            Kit.due("no flags", board.register(6), 2);
            execute(0, 0, 0, 0x01 | p << 4, 0x34, 0x12);
            Kit.due("LXI " + p, pair(p), 0x1234);
            execute(0, 0xD4, 0x8001, 0x01 | p << 4, 0xFF, 0x7F, 0x09 | p << 4);
            Kit.due("DAD " + p, pair(2), p == 2 ? 0xFFFE : 0);
            Kit.due("CY alone", board.register(6), p == 2 ? 0xD6 : 0xD7);
            execute(0, 1, 0x7FFF, 0x01 | p << 4, p == 2 ? 0xFF : 0x00, p == 2 ? 0x7F : 0x80, 0x09 | p << 4);
            Kit.due("no carry at 65535", board.register(6) & 1, 0);
            execute(0, 1, 0x0001, 0x09 | p << 4);
            Kit.due("no carry", board.register(6) & 1, 0);
        }
        execute(0x77, 0, 0x1111, 0x11, 0x22, 0x22, 0xEB);
        Kit.due("XCHG", pair(2), 0x2222);
        Kit.due("XCHG", pair(1), 0x1111);
        execute(0, 0, 0x2345, 0xF9);
        Kit.due("SPHL", board.register(8), 0x2345);
        Kit.put(board, 0x2345, 0x76);
        execute(0, 0, 0x2345, 0xE9, 0x76);
        Kit.due("PCHL", board.register(9), 0x2346);
        Kit.due("SP stays", board.register(8), 0x3000);
    }

    private static void moves() {
        int[] values = {1, 2, 3, 4, 0x20, 0x30, 0, 7};
        for (int to = 0; to < 8; to++) {
            for (int from = 0; from < 8; from++) {
                if (to == 6 && from == 6) {
                    continue;
                }
                execute(7, 0xD5, 0x2030, 0x01, 2, 1, 0x11, 4, 3, 0x36, 99, 0x40 | to << 3 | from);
                int moved = from == 6 ? 99 : values[from];
                if (to == 6) {
                    Kit.due("MOV M," + from, board.memory(0x2030), moved);
                } else {
                    Kit.due("MOV " + to + "," + from, board.register(to), moved);
                }
                Kit.due("no flags", board.register(6), 0xD7);
            }
        }
        for (int to = 0; to < 8; to++) {
            execute(0, 0, 0x2031, 0x06 | to << 3, 0xA1);
            Kit.due("MVI " + to, to == 6 ? board.memory(0x2031) : board.register(to), 0xA1);
        }
        execute(0x5C, 0, 0xBEEF, 0x01, 0, 0x21, 0x11, 1, 0x21, 0x02, 0x12, 0x32, 2, 0x21, 0x22, 3, 0x21);
        Kit.due("STAX B", board.memory(0x2100), 0x5C);
        Kit.due("STAX D", board.memory(0x2101), 0x5C);
        Kit.due("STA", board.memory(0x2102), 0x5C);
        Kit.due("SHLD", board.memory(0x2103), 0xEF);
        Kit.due("SHLD", board.memory(0x2104), 0xBE);
        Kit.put(board, 0x2200, 11, 12, 13, 14, 15);
        execute(0, 0, 0, 0x01, 0, 0x22, 0x0A);
        Kit.due("LDAX B", board.register(7), 11);
        execute(0, 0, 0, 0x11, 1, 0x22, 0x1A);
        Kit.due("LDAX D", board.register(7), 12);
        execute(0, 0, 0, 0x3A, 2, 0x22, 0x2A, 3, 0x22);
        Kit.due("LDA", board.register(7), 13);
        Kit.due("LHLD", pair(2), 15 << 8 | 14);
        execute(0, 0, 0xFFFF, 0x36, 9, 0x2A, 0xFF, 0xFF);
        Kit.due("words go around", board.register(5), 9);
        Kit.due("words go around", board.register(4), 0xC3);
    }

    private static void branches() {
        int[] flags = {0, 0x40, 0, 0x01, 0, 0x04, 0, 0x80};
        int[] others = {0x40, 0, 0x01, 0, 0x04, 0, 0x80, 0};
        for (int c = 0; c < 8; c++) {
            branch(c, flags[c], true);
            branch(c, others[c], false);
        }
        execute(0, 0, 0, 0x01, 0x12, 0x01, 0xC5, 0xC9);
        MonitorBoard b = fresh();
        for (int n = 0; n < 8; n++) {
            Kit.put(b, 256, 0x31, 0, 0x30, 0xC7 | n << 3);
            Kit.put(b, 8 * n, 0x76);
            b.jump(256);
            long before = b.states();
            b.run(1000);
            Kit.due("states of RST " + n, b.states() - before, 10 + 11 + 7);
            Kit.due("RST " + n, b.register(9), 8 * n + 1);
            Kit.due("its return", Kit.word(b, b.register(8)), 260);
        }
        board = new MonitorBoard();
    }

    /** Behind each branch stands MVI B,1; its target, HLT, is five or so bytes on. */
    private static void branch(int c, int flags, boolean taken) {
        execute(0, flags, 0, 6, 0, 0xC2 | c << 3, 0x12, 0x01, 0x06, 1);
        Kit.due("J" + c, board.register(0) == 0, taken);
        execute(0, flags, 0, 6, 0, 0xC4 | c << 3, 0x12, 0x01, 0x06, 1);
        Kit.due("C" + c, board.register(0) == 0, taken);
        Kit.due("C" + c + " SP", board.register(8), taken ? 0x2FFE : 0x3000);
        if (taken) {
            Kit.due("the return", Kit.word(board, 0x2FFE), 0x110);
        }
        execute(0, flags, 0x0113, 6, 0, 0xE5, 0xC0 | c << 3, 0x06, 1, 0, 0, 0, 0);
        Kit.due("R" + c, board.register(0) == 0, taken);
        Kit.due("R" + c + " SP", board.register(8), taken ? 0x3000 : 0x2FFE);
    }

    private static void stack() {
        execute(0xAB, 0xFF, 0, 0xF5);
        Kit.due("PSW", Kit.word(board, 0x2FFE), 0xABD7);
        execute(0, 0, 0, 0x01, 0x28, 0xCD, 0xC5, 0xF1);
        Kit.due("A", board.register(7), 0xCD);
        Kit.due("2 is 1, 8 and 32 are 0", board.register(6), 2);
        for (int p = 0; p < 3; p++) {
            execute(0, 0, 0, 0x01 | p << 4, 0x34, 0x12, 0xC5 | p << 4, 0x01 | p << 4, 0, 0, 0xC1 | p << 4);
            Kit.due("POP " + p, pair(p), 0x1234);
        }
        execute(0, 0, 0x1234, 0x01, 0x78, 0x56, 0xC5, 0xE3);
        Kit.due("XTHL", pair(2), 0x5678);
        Kit.due("XTHL", Kit.word(board, 0x2FFE), 0x1234);
        execute(0, 0, 0x4321, 0x31, 1, 0, 0xE5);
        Kit.due("around", board.register(8), 0xFFFF);
        Kit.due("low", board.memory(0xFFFF), 0x21);
        Kit.due("high", board.memory(0), 0x43);
        board = new MonitorBoard();
    }

    private static void ports() {
        board = new MonitorBoard();
        uses = 0;
        execute(5, 0xD5, 0, 0xDB, 0);
        Kit.due("no key waits", board.register(7), 0);
        execute(5, 0xD5, 0, 0xDB, 1);
        Kit.due("no key", board.register(7), 0);
        Kit.due("no flags", board.register(6), 0xD7);
        execute(5, 0, 0, 0xDB, 2);
        Kit.due("another port", board.register(7), 255);
        Kit.type(board, "\u00c1b");
        execute(5, 0, 0, 0xDB, 0);
        Kit.due("a key waits", board.register(7), 255);
        execute(5, 0, 0, 0xDB, 1);
        Kit.due("with its 128", board.register(7), 0xC1);
        Kit.told(board);
        execute(0xE9, 0, 0, 0xD3, 1, 0xD3, 0, 0xD3, 255);
        Kit.due("a sign", Kit.told(board), "\u00e9");
    }
}
