/** The boundary cases of Parts II to IV: disks, the BIOS and the calls that do not go to files by an FCB. */
public final class CallEdgesTest {
    private static final int USE = 61472;

    public static void main(String[] args) {
        blocksCounted();
        blocksBehindTheDirectory();
        blocksToldAnew();
        keysOfTheBios();
        nothingOfTheBios();
        drivesOfTheBios();
        sectorsOfTheBios();
        recordsOfTheBios();
        coldBootOfTheBios();
        signsOfTheConsole();
        directConsole();
        signsUpToDollar();
        lineOfNone();
        lineThatIsFull();
        lineTakenBack();
        lineBroken();
        lineThatWaits();
        lineAround();
        drivesAtHand();
        drivesLoggedIn();
        onlyRead();
        users();
        otherNumbers();
        resultsOfAll();
        Kit.finish();
    }

    private static int used(MonitorBoard b, int block) {
        return b.memory(USE + block / 8) >> 7 - block % 8 & 1;
    }

    private static int usedInAll(MonitorBoard b) {
        int count = 0;
        for (int i = 0; i < 31; i++) {
            count += Integer.bitCount(b.memory(USE + i));
        }
        return count;
    }

    /** BLOCKS in USE are 0, 1 and all that any ENTRY that is not free tells (above 242: not counted). */
    private static void blocksCounted() {
        MonitorBoard b = new MonitorBoard();
        byte[] free = Kit.entry(0xE5, "FREE", "", 0, 1, 50);
        Kit.entries(b, 0, 0, Kit.entry(0, "A", "", 0, 0, 0, 1, 2, 241, 242, 243, 244, 255), free,
            Kit.entry(31, "B", "", 31, 128, 7), Kit.entry(200, "C", "", 99, 200, 8));
        Kit.entries(b, 0, 15, free, free, free, Kit.entry(0, "LAST", "", 0, 1, 0, 0, 0, 0, 0, 0, 0, 0, 0, 0, 0, 0, 0, 0, 0, 100));
        Kit.result(b, 27, 0);
        for (int block : new int[] {0, 1, 2, 7, 8, 100, 241, 242}) {
            Kit.due("in USE " + block, used(b, block), 1);
        }
        Kit.due("no other", usedInAll(b), 8);
        Kit.due("no BLOCK 243", b.memory(USE + 30) & 0x1F, 0);
        Kit.call(b, 0, 0);
        Kit.due("STAT", Kit.line(b, "STAT"), "\r\nA: 235k\r\nA>");
    }

    /** The DIRECTORY has 64 ENTRIES: what a file has behind them, in BLOCK 2, tells none. */
    private static void blocksBehindTheDirectory() {
        MonitorBoard b = new MonitorBoard();
        Kit.put(b, 256, "\u0001".repeat(16) + "defghijklmnopqrs");
        Kit.line(b, "SAVE 1 X");
        Kit.due("in BLOCK 2", Kit.blockByte(b, 0, 2, 0, 16), 'd');
        Kit.call(b, 0, 0);
        Kit.due("STAT", Kit.line(b, "STAT"), "\r\nA: 240k\r\nA>");
        Kit.due("no such file", Kit.line(b, "STAT *.*"), "\r\nX            2 1k\r\nA>");
    }

    /** Told anew when the drive is LOGGED in, and not before. */
    private static void blocksToldAnew() {
        for (int way = 0; way < 4; way++) {
            MonitorBoard b = new MonitorBoard();
            b.disk(0, 2, 1, 0, 0xE5);
            Kit.result(b, 27, 0);
            Kit.due("not yet", usedInAll(b), 2);
            Kit.result(b, 14, 0);
            Kit.result(b, 27, 0);
            Kit.due("14 of a drive that is LOGGED in", usedInAll(b), 2);
            if (way == 0) {
                Kit.result(b, 13, 0);
            } else if (way == 1) {
                Kit.result(b, 37, 1);
            } else if (way == 2) {
                Kit.call(b, 0, 0);
            } else {
                b.boot();
            }
            Kit.result(b, 27, 0);
            Kit.due("told anew", usedInAll(b), 3);
            Kit.due("BLOCK 229", used(b, 229), 1);
        }
    }

    /** Entry k with BC. */
    private static int bios(MonitorBoard b, int k, int bc) {
        int at = 60416 + 3 * k;
        Kit.put(b, 256, 0x31, 0, 0x40, 0x01, bc & 255, bc >> 8, 0xCD, at & 255, at >> 8, 0x76);
        b.jump(256);
        return b.run(10000);
    }

    private static int hl(MonitorBoard b) {
        return b.register(4) << 8 | b.register(5);
    }

    /** 2, 3, 4: keys and signs without 128; without a key the board WAITS, and does it again. */
    private static void keysOfTheBios() {
        MonitorBoard b = new MonitorBoard();
        Kit.told(b);
        bios(b, 2, 0);
        Kit.due("none waits", b.register(7), 0);
        Kit.due("3 waits", bios(b, 3, 0), 1);
        Kit.due("SP stays", b.register(8), 0x3FFE);
        Kit.due("A stays", b.register(7), 0);
        Kit.tape(b, Kit.bytes(0x80, 0xFF));
        b.keys();
        Kit.due("goes on", b.run(10000), 2);
        Kit.due("128 is 0", b.register(7), 0);
        bios(b, 2, 0);
        Kit.due("one waits", b.register(7), 255);
        bios(b, 3, 0);
        Kit.due("255 is 127", b.register(7), 127);
        bios(b, 2, 0);
        Kit.due("none waits", b.register(7), 0);
        bios(b, 4, 0x4180);
        bios(b, 4, 0x00FF);
        Kit.due("signs", Kit.told(b), "\0\u007f");
    }

    /** 5, 6 nothing; 7 A becomes 26; 15 A 0; other registers stay. */
    private static void nothingOfTheBios() {
        int[][] due = {{5, 0x55}, {6, 0x55}, {7, 26}, {15, 0}, {8, 0x55}, {2, 0}};
        for (int[] d : due) {
            MonitorBoard b = new MonitorBoard();
            b.console();
            int at = 60416 + 3 * d[0];
            Kit.put(b, 256, 0x31, 0, 0x40, 0x01, 0x34, 0x12, 0x11, 0x78, 0x56, 0x21, 0xBC, 0x9A, 0x3E, 0x55, 0x37, 0xCD, at & 255, at >> 8, 0x76);
            b.jump(256);
            Kit.due("stops", b.run(1000), 2);
            int[] others = {0x12, 0x34, 0x56, 0x78, 0x9A, 0xBC, 3};
            for (int i = 0; i < others.length; i++) {
                Kit.due("register " + i + " of " + d[0], b.register(i), others[i]);
            }
            Kit.due("A of " + d[0], b.register(7), d[1]);
            Kit.due("nothing told", b.console(), 0);
        }
    }

    /** 9: others than 0, 1: HL 0, the drive stays. */
    private static void drivesOfTheBios() {
        MonitorBoard b = new MonitorBoard();
        b.disk(1, 0, 1, 0, 0xE5 ^ 'B');
        bios(b, 9, 1);
        Kit.due("1", hl(b), 61456);
        for (int c : new int[] {2, 128, 255}) {
            bios(b, 9, c);
            Kit.due("drive " + c, hl(b), 0);
            bios(b, 13, 0);
            Kit.due("A 0", b.register(7), 0);
            Kit.due("it stays", b.memory(128), 'B');
        }
        bios(b, 9, 0x100);
        Kit.due("C is 0", hl(b), 61440);
        bios(b, 13, 0);
        Kit.due("drive 0", b.memory(128), 0xE5);
        Kit.due("the drive at hand is not asked", b.register(10), 0);
    }

    /** 13, 14: A 1 if there is no such track or sector, and nothing comes or goes. */
    private static void sectorsOfTheBios() {
        int[][] places = {{0, 1, 0}, {76, 26, 0}, {77, 1, 1}, {0, 0, 1}, {0, 27, 1}, {65535, 1, 1}, {0, 65535, 1}, {256, 1, 1}, {0, 257, 1}};
        for (int[] p : places) {
            MonitorBoard b = new MonitorBoard();
            bios(b, 10, p[0]);
            bios(b, 11, p[1]);
            bios(b, 12, 0x3000);
            Kit.put(b, 0x2FFF, 9, 9);
            Kit.put(b, 0x307F, 9, 9);
            bios(b, 13, 0);
            Kit.due("A of 13", b.register(7), p[2]);
            int first = p[2] == 0 ? 0xE5 : 9;
            Kit.due("ahead", b.memory(0x2FFF), 9);
            Kit.due("first", b.memory(0x3000), first);
            Kit.due("last", b.memory(0x307F), first);
            Kit.due("behind", b.memory(0x3080), 9);
            Kit.put(b, 0x307F, 0x77);
            bios(b, 14, 0);
            Kit.due("A of 14", b.register(7), p[2]);
            if (p[2] == 0) {
                Kit.due("it", b.disk(0, p[0], p[1], 127, 0), 0x77);
            }
        }
        MonitorBoard b = new MonitorBoard();
        b.disk(0, 0, 1, 0, 0xE5 ^ 1);
        b.disk(0, 0, 1, 1, 0xE5 ^ 2);
        b.disk(0, 0, 1, 127, 0xE5 ^ 3);
        bios(b, 12, 65535);
        Kit.due("data at 65535", b.register(12), 65535);
        bios(b, 13, 0);
        Kit.due("the first", b.memory(65535), 1);
        Kit.due("around", b.memory(0), 2);
        Kit.due("the last", b.memory(126), 3);
        bios(b, 10, 5);
        bios(b, 8, 0);
        Kit.put(b, 65535, 7);
        bios(b, 14, 0);
        Kit.due("8: track 0", b.disk(0, 0, 1, 0, 0), 7);
    }

    /** 16: for BC 0 .. 25, others 0. */
    private static void recordsOfTheBios() {
        MonitorBoard b = new MonitorBoard();
        int[][] due = {{0, 1}, {12, 21}, {13, 2}, {25, 22}, {26, 0}, {27, 0}, {256, 0}, {281, 0}, {65535, 0}};
        for (int[] d : due) {
            bios(b, 16, d[0]);
            Kit.due("record " + d[0], hl(b), d[1]);
        }
    }

    /** Drive 0, track 0, sector 1 at a cold boot; a warm one leaves them. */
    private static void coldBootOfTheBios() {
        MonitorBoard b = new MonitorBoard();
        b.disk(1, 3, 4, 0, 0xE5 ^ 'x');
        b.disk(0, 0, 1, 0, 0xE5 ^ 'y');
        bios(b, 9, 1);
        bios(b, 10, 3);
        bios(b, 11, 4);
        bios(b, 1, 0);
        bios(b, 13, 0);
        Kit.due("as they were", b.memory(128), 'x');
        bios(b, 0, 0);
        bios(b, 13, 0);
        Kit.due("as at first", b.memory(128), 'y');
    }

    /** 1, 2: keys and signs without 128; 1 waits. */
    private static void signsOfTheConsole() {
        MonitorBoard b = new MonitorBoard();
        Kit.told(b);
        Kit.due("1 waits", Kit.call(b, 1, 0), 1);
        Kit.due("nothing told", b.console(), 0);
        Kit.tape(b, Kit.bytes(0xFF));
        b.keys();
        Kit.due("goes on", b.run(10000), 2);
        Kit.due("127", b.register(7), 127);
        Kit.due("HL", hl(b), 127);
        Kit.due("told back", Kit.told(b), "\u007f");
        Kit.tape(b, Kit.bytes(0x80, 0x0D));
        b.keys();
        Kit.due("0", Kit.result(b, 1, 0), 0);
        Kit.due("13 is told as it is", Kit.result(b, 1, 0), 13);
        Kit.result(b, 2, 0xFF80);
        Kit.result(b, 2, 0x00FF);
        Kit.due("told", Kit.told(b), "\0\r\0\u007f");
    }

    /** 6: 253 is a sign, 254 and 255 ask; 0 without a key. */
    private static void directConsole() {
        MonitorBoard b = new MonitorBoard();
        Kit.told(b);
        Kit.due("254 without", Kit.result(b, 6, 254), 0);
        Kit.due("255 without", Kit.result(b, 6, 255), 0);
        Kit.due("253", Kit.result(b, 6, 253), 0);
        Kit.due("0", Kit.result(b, 6, 0), 0);
        Kit.due("E alone", Kit.result(b, 6, 0xFF41), 0);
        Kit.due("told", Kit.told(b), "}\0A");
        Kit.tape(b, Kit.bytes(0x80));
        b.keys();
        Kit.due("254 with a key", Kit.result(b, 6, 254), 255);
        Kit.due("it stays", b.keys(), 1);
        Kit.due("its 128 goes", Kit.result(b, 6, 255), 0);
        Kit.due("it is gone", b.keys(), 0);
        Kit.due("not told back", b.console(), 0);
    }

    /** 9: up to a $; at most 65536; one state more for each byte that it tells. */
    private static void signsUpToDollar() {
        MonitorBoard b = new MonitorBoard();
        Kit.told(b);
        Kit.put(b, 0x2000, "$abc$");
        long before = b.states();
        Kit.result(b, 9, 0x2000);
        Kit.due("none", b.console(), 0);
        Kit.due("fifty", b.states() - before, 10 + 7 + 10 + 17 + 10 + 50 + 7);
        before = b.states();
        Kit.result(b, 9, 0x2001);
        Kit.due("three", Kit.told(b), "abc");
        Kit.due("fifty-three", b.states() - before, 10 + 7 + 10 + 17 + 10 + 53 + 7);
        Kit.put(b, 65534, "xyz$");
        Kit.result(b, 9, 65534);
        Kit.due("around", Kit.told(b), "xyz");
        MonitorBoard c = new MonitorBoard();
        Kit.told(c);
        Kit.put(c, 0x1FFF, "$");
        before = c.states();
        Kit.result(c, 9, 0x2000);
        Kit.due("65535 ahead of it", c.states() - before, 10 + 7 + 10 + 17 + 10 + 50 + 65535 + 7);
        Kit.due("8000 of them", c.console(), 8000);
        MonitorBoard d = new MonitorBoard();
        before = d.states();
        Kit.result(d, 9, 0x2000);
        Kit.due("65536 without one", d.states() - before, 10 + 7 + 10 + 17 + 10 + 50 + 65536 + 7);
    }

    /** 10: byte 0 is 0: A 0, nothing read, nothing told, byte 1 stays. */
    private static void lineOfNone() {
        MonitorBoard b = new MonitorBoard();
        Kit.told(b);
        Kit.put(b, 0x2000, 0, 77, 78);
        Kit.due("without a key", Kit.result(b, 10, 0x2000), 0);
        Kit.type(b, "\3x\r");
        Kit.due("with keys", Kit.result(b, 10, 0x2000), 0);
        Kit.due("nothing read", b.keys(), 3);
        Kit.due("nothing told", b.console(), 0);
        Kit.due("the buffer stays", Kit.memory(b, 0x2000, 3), "\0MN");
    }

    private static void reads(int most, String keys, String came, String told, int left) {
        MonitorBoard b = new MonitorBoard();
        Kit.told(b);
        Kit.put(b, 0x2000, most, 77);
        Kit.type(b, keys);
        Kit.due("line of " + Kit.shown(keys), Kit.result(b, 10, 0x2000), 0);
        Kit.due("byte 0 stays", b.memory(0x2000), most);
        Kit.due("came", Kit.memory(b, 0x2001, came.length() + 1), (char) came.length() + came);
        Kit.due("told", Kit.told(b), told);
        Kit.due("left", b.keys(), left);
    }

    /** 10: when it is full, it ends behind the last one. */
    private static void lineThatIsFull() {
        reads(1, "xy", "x", "x\r", 1);
        reads(1, "\r", "", "\r", 0);
        reads(2, "x\n", "x", "x\r", 0);
        reads(2, "xy\r", "xy", "xy\r", 1);
        reads(2, "x\bxyz", "xy", "x\b \bxy\r", 1);
        reads(255, "q".repeat(255) + "z", "q".repeat(255), "q".repeat(255) + "\r", 1);
        reads(255, "q".repeat(254) + "\r", "q".repeat(254), "q".repeat(254) + "\r", 0);
        reads(1, "\1z", "\1", "^A\r", 1);
        reads(3, "\r\n", "", "\r", 1);
    }

    /** 10: 8 or 127 takes back the last one, without one nothing; below 32 as ^ and it + 64. */
    private static void lineTakenBack() {
        reads(9, "\b\u007fa\r", "a", "a\r", 0);
        reads(9, "ab\b\u007f\b\u007fc\r", "c", "ab\b \b\b \bc\r", 0);
        reads(9, "\u0088a\u00ffb\u008a", "b", "a\b \bb\r", 0);
        reads(9, "\0\u001f \u007e\r", "\0\u001f ~", "^@^_ ~\r", 0);
        reads(9, "\1\b\2\r", "\2", "^A\b \b^B\r", 0);
        reads(9, "\t\u001b\r", "\t\u001b", "^I^[\r", 0);
        reads(9, "a\3\r", "a\3", "a^C\r", 0);
        reads(9, "\u0080\u00e1\r", "\0a", "^@a\r", 0);
    }

    /** 10: 3 when there is none: warm boot. */
    private static void lineBroken() {
        for (String keys : new String[] {"\3", "a\b\3", "\u0083", "\b\3", "ab\u007f\u007f\3"}) {
            MonitorBoard b = new MonitorBoard();
            Kit.put(b, 0x2000, 9, 77);
            Kit.type(b, keys + "R\r");
            Kit.told(b);
            Kit.due("boots and reads on", Kit.call(b, 10, 0x2000), 1);
            Kit.due("warm", Kit.told(b).endsWith("\r\nA>R\r\r\nR?\r\nA>"), true);
            Kit.due("the buffer stays", b.memory(0x2001), 77);
            Kit.due("the stack is as it was", b.register(8), 0x3FFE);
        }
    }

    /** 10: each key waits; byte 0 counts as it was at its beginning; byte 1 and the signs come at its end. */
    private static void lineThatWaits() {
        MonitorBoard b = new MonitorBoard();
        Kit.told(b);
        Kit.put(b, 0x2000, 3, 77, 78, 79);
        Kit.due("waits", Kit.call(b, 10, 0x2000), 1);
        long before = b.states();
        for (String key : new String[] {"a", "b", "\b", "c"}) {
            Kit.type(b, key);
            Kit.due("waits on", b.run(1000), 1);
            Kit.due("at the call", b.register(9), 60934);
            Kit.due("nothing came yet", Kit.memory(b, 0x2001, 3), "MNO");
        }
        Kit.due("no states", b.states(), before);
        Kit.put(b, 0x2000, 0, 66);
        Kit.type(b, "d");
        Kit.due("the third", b.run(1000), 2);
        Kit.due("they came", Kit.memory(b, 0x2000, 5), "\0\3acd");
        Kit.due("told", Kit.told(b), "ab\b \bcd\r");
        Kit.due("fifty and HLT", b.states() - before, 57);
    }

    /** Addresses are modulo 65536: a buffer over the end of MEMORY. */
    private static void lineAround() {
        MonitorBoard b = new MonitorBoard();
        Kit.put(b, 65534, 4, 77);
        Kit.type(b, "wxy\r");
        Kit.due("10", Kit.result(b, 10, 65534), 0);
        Kit.due("byte 1", b.memory(65535), 3);
        Kit.due("signs", Kit.memory(b, 0, 3), "wxy");
        MonitorBoard c = new MonitorBoard();
        Kit.put(c, 65535, 2);
        Kit.type(c, "v\r");
        Kit.due("10", Kit.result(c, 10, 65535), 0);
        Kit.due("byte 1", c.memory(0), 1);
        Kit.due("sign", c.memory(1), 'v');
    }

    /** 14: others than 0, 1: SELECT, by the letter of A and its number more, as a byte. */
    private static void drivesAtHand() {
        MonitorBoard b = new MonitorBoard();
        Kit.due("1", Kit.result(b, 14, 0xFF01), 0);
        Kit.due("at hand", b.register(10), 1);
        Kit.due("2", Kit.boots(b, 14, 2), "\r\nBdos Err On C: Select\r\nB>");
        Kit.due("190", Kit.boots(b, 14, 190), "\r\nBdos Err On \u00ff: Select\r\nB>");
        Kit.due("191", Kit.boots(b, 14, 191), "\r\nBdos Err On \0: Select\r\nB>");
        Kit.due("255", Kit.boots(b, 14, 255), "\r\nBdos Err On @: Select\r\nB>");
        Kit.due("at hand as it was", b.register(10), 1);
        Kit.due("0", Kit.result(b, 14, 0x100), 0);
        Kit.due("at hand", b.register(10), 0);
    }

    /** 24, 13, 37: which drives are LOGGED in. */
    private static void drivesLoggedIn() {
        MonitorBoard b = new MonitorBoard();
        Kit.due("A at first", Kit.result(b, 24, 0), 1);
        Kit.result(b, 14, 1);
        Kit.due("both", Kit.result(b, 24, 0), 3);
        Kit.result(b, 37, 0);
        Kit.due("no bit", Kit.result(b, 24, 0), 3);
        Kit.result(b, 37, 0xFFFC);
        Kit.due("no such drives", Kit.result(b, 24, 0), 3);
        Kit.result(b, 37, 0x8001);
        Kit.due("A anew", Kit.result(b, 24, 0), 2);
        Kit.result(b, 37, 0xFFFF);
        Kit.due("both anew", Kit.result(b, 24, 0), 0);
        Kit.due("at hand stays", b.register(10), 1);
        Kit.result(b, 27, 0);
        Kit.due("27 LOGS the one at hand in", Kit.result(b, 24, 0), 2);
        Kit.due("0 is a warm boot", Kit.call(b, 0, 0), 1);
        Kit.due("the one at hand", Kit.result(b, 24, 0), 2);
        Kit.result(b, 26, 0xFFFF);
        Kit.due("data", b.register(12), 0xFFFF);
        Kit.result(b, 13, 0xFFFF);
        Kit.due("13: A", Kit.result(b, 24, 0), 1);
        Kit.due("at hand", b.register(10), 0);
        Kit.due("data", b.register(12), 128);
        b.boot();
        Kit.due("a cold boot", Kit.result(b, 24, 0), 1);
    }

    /** 28, 29: the drive at hand is only read until 13 (or 37 of it, or a cold boot). */
    private static void onlyRead() {
        MonitorBoard b = new MonitorBoard();
        Kit.due("none", Kit.result(b, 29, 0), 0);
        Kit.result(b, 28, 0);
        Kit.due("A", Kit.result(b, 29, 0), 1);
        Kit.result(b, 28, 0);
        Kit.due("A again", Kit.result(b, 29, 0), 1);
        Kit.result(b, 14, 1);
        Kit.result(b, 28, 0);
        Kit.due("both", Kit.result(b, 29, 0), 3);
        Kit.call(b, 0, 0);
        Kit.due("a warm boot leaves them", Kit.result(b, 29, 0), 3);
        Kit.result(b, 37, 0xFFFE);
        Kit.due("37 of B", Kit.result(b, 29, 0), 1);
        Kit.result(b, 13, 0);
        Kit.due("13", Kit.result(b, 29, 0), 0);
        Kit.result(b, 28, 0);
        b.boot();
        Kit.due("a cold boot", Kit.result(b, 29, 0), 0);
    }

    /** 32: E 255: A the USER; others: E modulo 32. */
    private static void users() {
        MonitorBoard b = new MonitorBoard();
        int[][] due = {{15, 15}, {16, 16}, {31, 31}, {32, 0}, {254, 30}, {0, 0}, {0xFF21, 1}};
        for (int[] d : due) {
            Kit.due("32 of " + d[0], Kit.result(b, 32, d[0]), 0);
            Kit.due("the USER", b.register(11), d[1]);
            Kit.due("asked", Kit.result(b, 32, 0x12FF), d[1]);
            Kit.due("stays", b.register(11), d[1]);
        }
        Kit.result(b, 32, 31);
        Kit.due("the prompt tells it", Kit.boots(b, 0, 0), "\r\nA31>");
        Kit.due("and not 0", Kit.line(b, "USER 0"), "\r\nA>");
        Kit.result(b, 32, 16);
        b.boot();
        Kit.due("USER 0", b.register(11), 0);
    }

    /** Other numbers: 0. */
    private static void otherNumbers() {
        for (int number : new int[] {38, 39, 41, 42, 63, 64, 127, 128, 137, 254, 255}) {
            MonitorBoard b = new MonitorBoard();
            Kit.told(b);
            long before = b.states();
            Kit.due("call " + number, Kit.result(b, number, 0x1234), 0);
            Kit.due("fifty states", b.states() - before, 10 + 7 + 10 + 17 + 10 + 50 + 7);
            Kit.due("DE stays", b.register(2) << 8 | b.register(3), 0x1234);
            Kit.due("C stays", b.register(1), number);
            Kit.due("nothing told", b.console(), 0);
        }
    }

    /** Results: HL and A L, B H (0 if none is told), whatever they were. */
    private static void resultsOfAll() {
        int[][] due = {{3, 26}, {4, 0}, {5, 0}, {7, 0x95}, {11, 0}, {12, 34}, {13, 0}, {24, 1}, {25, 0}, {26, 0}, {27, 61472}, {28, 0},
            {29, 0}, {31, 61504}, {37, 0}};
        for (int[] d : due) {
            MonitorBoard b = new MonitorBoard();
            Kit.put(b, 3, 0x95);
            Kit.put(b, 256, 0x31, 0, 0x40, 0x01, d[0], 0x99, 0x11, 0, 0, 0x21, 0x77, 0x66, 0x3E, 0x55, 0x37, 0xCD, 5, 0, 0x76);
            b.jump(256);
            Kit.due("stops", b.run(1000), 2);
            Kit.due("HL of " + d[0], hl(b), d[1]);
            Kit.due("A", b.register(7), d[1] & 255);
            Kit.due("B", b.register(0), d[1] >> 8);
            Kit.due("flags stay", b.register(6), 3);
        }
    }
}
