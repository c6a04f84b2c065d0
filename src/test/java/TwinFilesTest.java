import java.util.Random;

/** Random stories of calls, keys, lines and changed disks against a second board, written anew from Parts II to V. */
public final class TwinFilesTest {
    private static final int STACK = 0x4000;
    private static final String[] NAMES = {"A", "A", "A", "AB", "P", "ABCDEFGH"};
    private static final String[] TYPES = {"", "COM", "COM", "COM", "TXT"};
    private static final int[] FCBS = {0x5C, 0x2000, 0x2040, 0xFFF0};
    private static final int[] DATA = {128, 0x2000, 0x2010, 0x3000, 0x1FA0, 0xFF80, 0x5C};
    private static final int[] EXTENTS = {0, 0, 0, 0, 1, 1, 2, 30, 31, 32, 33, 63, 64, 191, 255};
    private static final int[] PLACES = {0, 0, 0, 1, 2, 7, 8, 126, 127, 128, 128, 129, 255};
    private static final int[] CALLS = {
        15, 15, 16, 16, 17, 18, 18, 19, 20, 20, 20, 21, 21, 21, 21, 22, 22, 23, 30, 33, 33, 34, 34, 34, 35, 36, 40, 40};
    private static final int[] OTHERS = {
        0, 1, 2, 3, 4, 5, 6, 7, 8, 9, 10, 11, 12, 13, 14, 14, 24, 24, 25, 26, 26, 27, 27, 28, 29, 31, 32, 32, 37, 37, 38,
        39, 41, 255};
    private static final int[] RECORDS = {0, 1, 7, 8, 127, 128, 129, 255, 256, 3968, 4094, 4095, 4096};
    private static final String[] COMMANDS = {
        "DIR", "DIR", "ERA", "ERA", "REN", "TYPE", "SAVE", "SAVE", "SAVE", "USER", "DUMP", "STAT", "STAT", "COPY", "COPY",
        "HEXLOAD", "A:", "B:", "A", "AB", "P", "b:p", "X.COM", "Q"};
    private static final String[] WORDS = {
        "A", "ab", "B", "ABCDEFGH", "X", "P", "*", "?", "A?", "A*", "ABCDEFGHI", "", "ABCDEFGH*"};
    private static final String[] WRONG_NUMBERS = {"", "255", "256", "0010", "1A", "-1"};

    private final Random random;
    private final MonitorBoard board = new MonitorBoard();
    private final TwinBoard twin = new TwinBoard();
    private int[] code;
    private int waitsCall = -1;
    private int waitsDe;
    private boolean waitsBios;
    private boolean stopped;
    private boolean given;
    private String last = "new";

    private TwinFilesTest(long seed) {
        random = new Random(seed);
    }

    public static void main(String[] args) {
        int stories = args.length > 1 ? Integer.parseInt(args[1]) : 600;
        long from = args.length > 2 ? Long.parseLong(args[2]) : 1;
        int given = 0;
        for (long seed = from; seed < from + stories; seed++) {
            TwinFilesTest story = new TwinFilesTest(seed);
            story.tell(seed);
            given += story.given ? 1 : 0;
        }
        System.out.println(given + " stories were given up");
        Kit.finish();
    }

    private void tell(long seed) {
        for (int i = 0; i < 120 && !given; i++) {
            step();
            if (!given) {
                looked("story " + seed + ", step " + i + ": " + last);
            }
        }
        if (!given) {
            whole("story " + seed);
        }
    }

    private int one(int[] row) {
        return row[random.nextInt(row.length)];
    }

    private String one(String[] row) {
        return row[random.nextInt(row.length)];
    }

    private boolean chance(int percent) {
        return random.nextInt(100) < percent;
    }

    private void step() {
        int n = random.nextInt(100);
        if (n < 45) {
            fileCall();
        } else if (n < 55) {
            int c = one(OTHERS);
            last = "call " + c;
            if (c == 10 && chance(80)) {
                put(0x2100, one(new int[] {0, 1, 3, 20, 255}));
                call(c, 0x2100);
            } else if (c == 9 && chance(80)) {
                put(0x2100, 'a', 200, 13, '$');
                call(c, 0x2100);
            } else if (c == 26) {
                call(c, one(DATA));
            } else {
                call(c, chance(50) ? random.nextInt(3) : chance(30) ? 255 - random.nextInt(2) : random.nextInt(256));
            }
        } else if (n < 60) {
            bios();
        } else if (n < 65) {
            entry();
        } else if (n < 67) {
            fill();
        } else if (n < 69) {
            randomMemory();
        } else if (n < 70) {
            last = "boot";
            board.boot();
            twin.cold();
            waitsCall = -1;
            stopped = false;
        } else if (n < 73) {
            hexText();
        } else {
            lineOf();
        }
    }

    // ---- the two boards side by side

    private void put(int at, int... values) {
        Kit.put(board, at, values);
        for (int i = 0; i < values.length; i++) {
            twin.memory[at + i & 65535] = values[i] & 255;
        }
    }

    private void begin(int... bytes) {
        code = bytes;
        put(256, code);
        board.jump(256);
        twin.atCommand = false;
        twin.started = false;
        twin.line = null;
        waitsCall = -1;
        stopped = false;
        int back = 256 + code.length - 1;
        twin.memory[STACK - 2] = back & 255;
        twin.memory[STACK - 1] = back >> 8;
    }

    /** Whether the board comes back to the HLT: neither the code nor the way back to it was written over. */
    private boolean codeStays() {
        int back = 256 + code.length - 1;
        return twin.memory[back] == 0x76 && twin.memory[STACK - 2] == (back & 255) && twin.memory[STACK - 1] == back >> 8;
    }

    private int run() {
        int answer = 0;
        for (int i = 0; i < 1000 && answer == 0; i++) {
            answer = board.run(200000);
        }
        return answer;
    }

    /** Whether the board came back from the call. */
    private boolean call(int c, int de) {
        begin(0x31, 0, STACK >> 8, 0x0E, c, 0x11, de & 255, de >> 8, 0xCD, 0x06, 0xEE, 0x76);
        twin.states += 10 + 7 + 10 + 17;
        waitsDe = de;
        waitsBios = false;
        settle(c, twin.call(c, de));
        return stopped && !given;
    }

    private void settle(int c, int answer) {
        int ran = run();
        if (answer == TwinBoard.WAITS) {
            waitsCall = c;
            Kit.due(last + " waits", ran, 1);
            Kit.due(last + " waits at", board.register(9), waitsBios ? 60416 + 9 : 0xEE06);
        } else if (answer == TwinBoard.BOOTED) {
            waitsCall = -1;
            settleLines(ran);
        } else if (!codeStays()) {
            given = true;
        } else {
            waitsCall = -1;
            stopped = true;
            twin.states += 7;
            Kit.due(last + " stops", ran, 2);
            Kit.due(last + " HL", board.register(4) << 8 | board.register(5), twin.hl);
            Kit.due(last + " A", board.register(7), twin.a);
            if (!waitsBios) {
                Kit.due(last + " B", board.register(0), twin.hl >> 8);
            }
        }
    }

    /** The lines that the keys told; a program that does not stop at once ends the story. */
    private void settleLines(int ran) {
        twin.command();
        if (!twin.started) {
            Kit.due(last + " waits for a line", ran, 1);
            Kit.due(last + " at", board.register(9), 60419);
            return;
        }
        if (twin.memory[256] != 0x76) {
            given = true;
            return;
        }
        twin.states += 7;
        stopped = true;
        Kit.due(last + " ran", ran, 2);
        Kit.due(last + " PC", board.register(9), 257);
        Kit.due(last + " SP", board.register(8), 58366);
        for (int i = 0; i < 8; i++) {
            Kit.due(last + " register " + i, board.register(i), i == 6 ? 2 : 0);
        }
    }

    private void keys(String text) {
        Kit.type(board, text);
        for (char c : text.toCharArray()) {
            twin.keys.add((int) c);
        }
        if (waitsCall >= 0) {
            int c = waitsCall;
            settle(c, waitsBios ? twin.bios(3, 0) : twin.call(c, waitsDe));
        } else if (stopped) {
            Kit.due(last + " stopped", board.run(1000), 2);
        } else {
            settleLines(run());
        }
    }

    // ---- what happens

    private void fileCall() {
        int at = one(FCBS);
        if (chance(45)) {
            fcb(at);
        } else if (chance(40)) {
            put(at + 32, one(PLACES));
        } else if (chance(20)) {
            int r = chance(70) ? one(RECORDS) : random.nextInt(5000);
            put(at + 33, r & 255, r >> 8, chance(5) ? 1 : 0);
        }
        int c = one(CALLS);
        last = "call " + c + " of " + Integer.toHexString(at) + " data " + Integer.toHexString(twin.data);
        boolean back = true;
        if (c == 18 && chance(70)) {
            if (chance(60)) {
                wideName(at);
            }
            back = call(17, at);
        }
        int times = c == 21 || c == 20 || c == 18 ? 1 + random.nextInt(chance(10) ? 140 : 3) : 1;
        for (int i = 0; i < times && back; i++) {
            back = call(c, at);
        }
    }

    private void fcb(int at) {
        int[] f = new int[36];
        f[0] = chance(60) ? 0 : chance(85) ? 1 + random.nextInt(2) : one(new int[] {3, 63, 191, 128, 255});
        name(f, 1);
        f[12] = chance(50) ? 0 : one(EXTENTS);
        if (chance(25)) {
            f[15] = chance(50) ? random.nextInt(130) : one(PLACES);
            for (int k = 16; k < 32; k++) {
                f[k] = chance(40) ? 0 : chance(80) ? random.nextInt(12) : random.nextInt(256);
            }
        }
        if (chance(20)) {
            name(f, 17);
        }
        f[32] = chance(60) ? 0 : one(PLACES);
        int r = chance(60) ? random.nextInt(20) : one(new int[] {0, 127, 128, 255, 256, 4095, 4096, 65535});
        f[33] = r & 255;
        f[34] = r >> 8;
        put(at, f);
    }

    /** A name that is like many, of any EXTENT or of one. */
    private void wideName(int at) {
        put(at, chance(80) ? 0 : '?', 'A', '?', '?', '?', '?', '?', '?', '?', '?' | (chance(30) ? 128 : 0), '?', '?',
            chance(60) ? '?' : 0);
    }

    private void name(int[] f, int at) {
        byte[] b = Kit.bytes(String.format("%-8s%-3s", one(NAMES), one(TYPES)));
        for (int k = 0; k < 11; k++) {
            f[at + k] = b[k];
            if (chance(4)) {
                f[at + k] = '?';
            }
            if (chance(5)) {
                f[at + k] |= 128;
            }
        }
        if (chance(8)) {
            for (int k = 0; k < 11; k++) {
                f[at + k] = '?';
            }
        }
    }

    private void bios() {
        int k = chance(10) ? random.nextInt(17) : 2 + random.nextInt(15);
        int bc = chance(70) ? random.nextInt(28) : random.nextInt(65536);
        if (k == 12) {
            bc = one(DATA);
        }
        int a = random.nextInt(256);
        int hl = random.nextInt(65536);
        last = "BIOS " + k;
        int to = 60416 + 3 * k;
        begin(0x31, 0, STACK >> 8, 0x01, bc & 255, bc >> 8, 0x3E, a, 0x21, hl & 255, hl >> 8, 0xCD, to & 255, to >> 8, 0x76);
        twin.states += 10 + 10 + 7 + 10 + 17;
        twin.a = a;
        twin.hl = hl;
        waitsBios = true;
        settle(3, twin.bios(k, bc));
    }

    private void setDisk(int drive, int e, int k, int value) {
        int n = e / 4;
        int sector = 1 + (6 * n + n / 13) % 26;
        int was = board.disk(drive, 2, sector, e % 4 * 32 + k, 0);
        board.disk(drive, 2, sector, e % 4 * 32 + k, (was ^ value) | random.nextInt(100) << 8);
        twin.setEntry(drive, e, k, value);
    }

    private void entry() {
        int drive = random.nextInt(2);
        int e = chance(80) ? random.nextInt(8) : chance(30) ? 63 : random.nextInt(64);
        int[] b = new int[32];
        last = "entry " + e + " of " + drive;
        if (chance(30)) {
            setDisk(drive, e, random.nextInt(32), random.nextInt(256));
            return;
        }
        name(b, 1);
        b[0] = chance(75) ? twin.user : chance(50) ? random.nextInt(33) : 0xE5;
        b[9] |= chance(25) ? 128 : 0;
        b[10] |= chance(10) ? 128 : 0;
        b[12] = chance(50) ? 0 : one(EXTENTS);
        b[15] = one(new int[] {0, 1, 2, 8, 9, 127, 128, 129, 255});
        for (int k = 16; k < 32; k++) {
            b[k] = chance(20) ? 0 : chance(85) ? 2 + random.nextInt(30) : random.nextInt(256);
        }
        for (int k = 0; k < 32; k++) {
            setDisk(drive, e, k, b[k]);
        }
    }

    /** Nearly all ENTRIES or nearly all BLOCKS are taken, or they are free again. */
    private void fill() {
        int drive = random.nextInt(2);
        int kind = random.nextInt(3);
        int left = random.nextInt(3);
        last = "filled " + kind + " of " + drive;
        for (int e = 8; e < 64; e++) {
            boolean taken = kind == 0 ? e >= 8 + left : kind == 1 && e >= 40 && e < 56;
            setDisk(drive, e, 0, taken ? 31 : 0xE5);
            for (int k = 1; k < 32; k++) {
                int block = 2 + left * 4 + (e - 40) * 16 + k - 16;
                setDisk(drive, e, k, k < 16 ? 0 : kind == 1 && taken ? Math.min(block, 255) : 0);
            }
        }
    }

    private void randomMemory() {
        int[] b = new int[1 + random.nextInt(600)];
        for (int i = 0; i < b.length; i++) {
            b[i] = chance(2) ? 26 : random.nextInt(256);
        }
        b[0] = chance(70) ? 0x76 : b[0];
        last = "memory";
        put(256, b);
    }

    private void hexText() {
        StringBuilder text = new StringBuilder();
        int lines = random.nextInt(5);
        int at = one(new int[] {256, 256, 300, 255, 58360, 1000});
        for (int i = 0; i <= lines; i++) {
            int n = i == lines ? 0 : random.nextInt(20);
            int[] b = new int[4 + n];
            b[0] = n;
            b[1] = at >> 8;
            b[2] = at & 255;
            b[3] = i == lines ? 1 : 0;
            int sum = 0;
            for (int k = 0; k < b.length; k++) {
                b[k] = k < 4 ? b[k] : k == 4 ? 0x76 : random.nextInt(256);
                sum += b[k];
            }
            text.append(chance(60) ? "\r\n" : "").append(':');
            for (int value : b) {
                text.append(String.format("%02X", value));
            }
            text.append(String.format("%02X", -sum & 255));
            at += n + (chance(20) ? 200 : 0);
        }
        if (chance(30)) {
            int k = random.nextInt(text.length());
            text.setCharAt(k, one(new String[] {"0", "1", ":", "a", "\r", "F"}).charAt(0));
        }
        text.append(chance(80) ? "\u001a" : "");
        last = "hex text";
        put(256, new int[Math.min(text.length() + 300, 900)]);
        int[] b = new int[text.length()];
        for (int i = 0; i < b.length; i++) {
            b[i] = text.charAt(i);
        }
        put(256, b);
        toCommand();
        keys("SAVE " + (1 + random.nextInt(3)) + " X.HEX\r");
        if (!given && !stopped && chance(90)) {
            keys("HEXLOAD X\r");
        }
    }

    private void toCommand() {
        if (waitsCall >= 0 || stopped) {
            call(0, 0);
        }
    }

    private String word() {
        StringBuilder b = new StringBuilder(chance(25) ? one(new String[] {"A:", "B:", "b:", "C:", ":", "AB:"}) : "");
        b.append(one(WORDS));
        if (chance(60)) {
            b.append('.').append(one(new String[] {"", "COM", "hex", "TXT", "A", "*", "?", "C*", "COMM", "..", "A.B"}));
        }
        if (chance(3)) {
            b.append((char) (33 + random.nextInt(94)));
        }
        return b.toString();
    }

    private String plainWord() {
        return (chance(20) ? one(new String[] {"A:", "B:"}) : "") + one(NAMES) + (chance(60) ? "." + one(TYPES) : "");
    }

    private void lineOf() {
        if (chance(97)) {
            toCommand();
        }
        if (given) {
            return;
        }
        StringBuilder b = new StringBuilder(chance(5) ? " " : "").append(one(COMMANDS));
        String c = b.toString().trim();
        boolean two = c.equals("REN") || c.equals("COPY");
        if (c.equals("SAVE") || c.equals("USER")) {
            b.append(' ').append(chance(85) ? "" + random.nextInt(chance(90) ? 17 : 300) : one(WRONG_NUMBERS));
        }
        boolean alone = c.equals("USER") || c.endsWith(":") && chance(90) || c.equals("STAT") && chance(40)
            || c.equals("DIR") && chance(30);
        if (!alone) {
            b.append(' ').append(chance(50) ? plainWord() : word());
            if (two && chance(95)) {
                b.append(one(new String[] {"=", " = ", " =", "= ", "="})).append(chance(70) ? plainWord() : word());
            }
        }
        if (chance(6)) {
            b.append(one(new String[] {" X", " ", "=", " =", "  Y.Z", "\t", ":", "\u0003"}));
        }
        if (chance(3)) {
            b.insert(random.nextInt(b.length() + 1), (char) random.nextInt(256));
        }
        if (chance(2)) {
            while (b.length() < 130) {
                b.append(one(new String[] {" ", "X", "Y"}));
            }
        }
        b.append(chance(95) ? "\r" : chance(50) ? "\n" : "\b\u007f\u0083");
        last = "line " + Kit.shown(b.toString());
        keys(b.toString());
    }

    // ---- what is looked at

    private void looked(String what) {
        String told = twin.told.toString();
        twin.told.setLength(0);
        Kit.due(what, Kit.told(board), told.length() > 8000 ? told.substring(told.length() - 8000) : told);
        Kit.due(what + " states", board.states(), twin.states);
        Kit.due(what + " drive", board.register(10), twin.hand);
        Kit.due(what + " user", board.register(11), twin.user);
        Kit.due(what + " data", board.register(12), twin.data);
        for (int at : FCBS) {
            sameMemory(what, at, 36);
        }
        for (int at : DATA) {
            sameMemory(what, at, 128);
        }
    }

    private void sameMemory(String what, int at, int count) {
        for (int i = at; i < at + count; i++) {
            if (board.memory(i & 65535) != twin.memory[i & 65535]) {
                String place = ", memory " + Integer.toHexString(i & 65535);
                Kit.due(what + place, board.memory(i & 65535), twin.memory[i & 65535]);
                return;
            }
        }
    }

    private void whole(String what) {
        sameMemory(what, 0, 65536);
        for (int d = 0; d < 2; d++) {
            for (int track = 0; track < 77; track++) {
                for (int sector = 1; sector <= 26; sector++) {
                    for (int k = 0; k < 128; k++) {
                        if (board.disk(d, track, sector, k, 0) != twin.disks[d][track][sector][k]) {
                            Kit.due(what + ", disk " + d + " " + track + " " + sector + " " + k,
                                board.disk(d, track, sector, k, 0), twin.disks[d][track][sector][k]);
                            return;
                        }
                    }
                }
            }
        }
    }
}
