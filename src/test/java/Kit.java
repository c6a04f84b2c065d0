import java.nio.charset.StandardCharsets;

/** What the tests share: due answers, and ways to feed a board and to read what it tells. */
final class Kit {
    private static int wrong = 0;
    private static int looked = 0;

    private Kit() {
    }

    static void due(String what, long got, long want) {
        looked++;
        if (got != want) {
            wrong++;
            System.out.println(what + " answered " + got + ", due is " + want);
        }
    }

    static void due(String what, boolean got, boolean want) {
        due(what, got ? 1 : 0, want ? 1 : 0);
    }

    static void due(String what, String got, String want) {
        looked++;
        if (!got.equals(want)) {
            wrong++;
            System.out.println(what + " told\n  " + shown(got) + "\n  due is\n  " + shown(want));
        }
    }

    static void finish() {
        System.out.println(looked + " answers looked at, " + wrong + " wrong");
        if (wrong != 0 || looked == 0) {
            System.exit(1);
        }
    }

    static String shown(String text) {
        StringBuilder b = new StringBuilder();
        for (char c : text.toCharArray()) {
            if (c >= 32 && c < 127) {
                b.append(c);
            } else {
                b.append('<').append((int) c).append('>');
            }
        }
        return b.toString();
    }

    static byte[] bytes(String text) {
        return text.getBytes(StandardCharsets.ISO_8859_1);
    }

    static byte[] bytes(int... values) {
        byte[] b = new byte[values.length];
        for (int i = 0; i < b.length; i++) {
            b[i] = (byte) values[i];
        }
        return b;
    }

    /** Puts bytes behind an empty tape. */
    static void tape(MonitorBoard board, byte[] bytes) {
        board.end(0);
        for (int i = 0; i < bytes.length; i += 20) {
            int[] n = new int[5];
            for (int k = 0; k < 20; k++) {
                int value = i + k < bytes.length ? bytes[i + k] & 255 : 0;
                n[k / 4] = n[k / 4] << 8 | value;
            }
            if (!board.feed(n[0], n[1], n[2], n[3], n[4])) {
                throw new IllegalStateException("the tape is full");
            }
        }
        board.end(bytes.length);
    }

    static void tape(MonitorBoard board, String text) {
        tape(board, bytes(text));
    }

    static void type(MonitorBoard board, String keys) {
        tape(board, keys);
        if (board.keys() < 0) {
            throw new IllegalStateException("too many keys");
        }
    }

    static String out(MonitorBoard board, int count) {
        StringBuilder b = new StringBuilder();
        for (int i = 0; i < count; i++) {
            b.append((char) board.out(i));
        }
        return b.toString();
    }

    static String told(MonitorBoard board) {
        return out(board, board.console());
    }

    static int assemble(MonitorBoard board, String source) {
        tape(board, source);
        return board.assemble();
    }

    static String hex(MonitorBoard board, int count) {
        StringBuilder b = new StringBuilder();
        for (int i = 0; i < count; i++) {
            b.append(String.format("%02X", board.out(i)));
        }
        return b.toString();
    }

    static void put(MonitorBoard board, int at, int... values) {
        tape(board, bytes(values));
        board.load(at);
    }

    static void put(MonitorBoard board, int at, String text) {
        tape(board, text);
        board.load(at);
    }

    /** Assembles a program to 256; it must have no fault. */
    static void program(MonitorBoard board, String source) {
        int count = assemble(board, source);
        if (count < 0) {
            throw new IllegalStateException("fault at " + (-1 - count) + " of: " + source);
        }
        board.back();
        board.load(256);
    }

    /** Runs a program from 256 until it stops. */
    static void runProgram(MonitorBoard board, String source) {
        program(board, source);
        board.jump(256);
        int answer = 0;
        for (int turn = 0; turn < 20 && answer == 0; turn++) {
            answer = board.run(200000);
        }
        if (answer != 2) {
            throw new IllegalStateException("answered " + answer + ": " + source);
        }
    }

    /** What the board tells of a line at its prompt, without the echo. */
    static String line(MonitorBoard board, String keys) {
        told(board);
        type(board, keys + "\r");
        for (int turn = 0; turn < 10 && board.run(200000) == 0; turn++) {
            board.states();
        }
        String all = told(board);
        return all.startsWith(keys + "\r") ? all.substring(keys.length() + 1) : "?? " + all;
    }

    /** One call of the monitor from 256 on; the stack is at 4000H. */
    static int call(MonitorBoard board, int number, int de) {
        put(board, 256, 0x31, 0, 0x40, 0x0E, number, 0x11, de & 255, de >> 8 & 255, 0xCD, 5, 0, 0x76);
        board.jump(256);
        return board.run(200000);
    }

    /** The result of a call in HL. */
    static int result(MonitorBoard board, int number, int de) {
        int answer = call(board, number, de);
        if (answer != 2) {
            throw new IllegalStateException("call " + number + " did not come back: " + answer);
        }
        int hl = board.register(4) << 8 | board.register(5);
        due("A of call " + number, board.register(7), hl & 255);
        due("B of call " + number, board.register(0), hl >> 8);
        return hl;
    }

    static int word(MonitorBoard board, int at) {
        return board.memory(at) | board.memory(at + 1) << 8;
    }

    /** An FCB: drive, name and type; all else 0. */
    static void fcb(MonitorBoard board, int at, int drive, String name, String type) {
        byte[] b = new byte[36];
        b[0] = (byte) drive;
        byte[] full = bytes(String.format("%-8s%-3s", name, type));
        System.arraycopy(full, 0, b, 1, 11);
        tape(board, b);
        board.load(at);
    }

    static String memory(MonitorBoard board, int at, int count) {
        StringBuilder b = new StringBuilder();
        for (int i = 0; i < count; i++) {
            b.append((char) board.memory(at + i & 65535));
        }
        return b.toString();
    }

    /** An ENTRY of a directory; the BLOCKS that are not told are 0. */
    static byte[] entry(int user, String name, String type, int extent, int records, int... blocks) {
        byte[] b = new byte[32];
        b[0] = (byte) user;
        System.arraycopy(bytes(String.format("%-8s%-3s", name, type)), 0, b, 1, 11);
        b[12] = (byte) extent;
        b[15] = (byte) records;
        for (int i = 0; i < blocks.length; i++) {
            b[16 + i] = (byte) blocks[i];
        }
        return b;
    }

    /** Writes up to four ENTRIES (others are free) as a record of a directory; ends with a warm boot, nothing told. */
    static void entries(MonitorBoard board, int drive, int record, byte[]... entries) {
        byte[] b = new byte[128];
        java.util.Arrays.fill(b, (byte) 0xE5);
        for (int i = 0; i < entries.length; i++) {
            System.arraycopy(entries[i], 0, b, 32 * i, 32);
        }
        sector(board, drive, 2, 1 + (6 * record + record / 13) % 26, b);
    }

    /** Writes a sector by the BIOS; ends with a warm boot, nothing told. */
    static void sector(MonitorBoard board, int drive, int track, int sector, byte[] bytes) {
        tape(board, bytes);
        board.load(0x2800);
        put(board, 256, 0x31, 0, 0x40, 0x0E, drive, 0xCD, 0x1B, 0xEC, 0x01, track, 0, 0xCD, 0x1E, 0xEC, 0x01, sector, 0,
            0xCD, 0x21, 0xEC, 0x01, 0, 0x28, 0xCD, 0x24, 0xEC, 0xCD, 0x2A, 0xEC, 0xC3, 0x03, 0xEC);
        board.jump(256);
        if (board.run(10000) != 1) {
            throw new IllegalStateException("the sector was not written");
        }
        board.console();
    }

    /** A byte of an ENTRY. */
    static int entryByte(MonitorBoard board, int drive, int entry, int k) {
        int record = entry / 4;
        return board.disk(drive, 2, 1 + (6 * record + record / 13) % 26, entry % 4 * 32 + k, 0);
    }

    /** Byte k of record r of a BLOCK. */
    static int blockByte(MonitorBoard board, int drive, int block, int r, int k) {
        int n = block * 8 + r;
        int of = n % 26;
        return board.disk(drive, 2 + n / 26, 1 + (6 * of + of / 13) % 26, k, 0);
    }

    /** What the console told of a call that ends in a boot. */
    static String boots(MonitorBoard board, int number, int de) {
        board.console();
        due("call " + number + " boots", call(board, number, de), 1);
        due("at the command line", board.register(9), 60419);
        return told(board);
    }
}
