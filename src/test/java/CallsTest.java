/** Promises 6 to 8, 12 as far as they are the calls' (Part IV). */
public final class CallsTest {
    private static final int FCB = 0x3000;
    private static final int DATA = 0x3100;

    public static void main(String[] args) {
        console();
        signs();
        buffer();
        drives();
        tables();
        openCloseMake();
        search();
        deleteRename();
        sequential();
        extents();
        nextInEntryZero();
        nextMadeInEntryZero();
        lastPlaces();
        random();
        sizes();
        errors();
        readOnly();
        users();
        logsIn();
        oneFileInAllEntries();
        Kit.finish();
    }

    private static int file(MonitorBoard b, int number) {
        return Kit.result(b, number, FCB);
    }

    private static MonitorBoard withData() {
        MonitorBoard b = new MonitorBoard();
        Kit.result(b, 26, DATA);
        return b;
    }

    private static int dir(MonitorBoard b, int drive, int entry, int k) {
        int sector = 1 + 6 * (entry / 4) % 26 + (entry / 4 >= 13 ? 1 : 0);
        return b.disk(drive, 2, sector, entry % 4 * 32 + k, 0);
    }

    private static void console() {
        MonitorBoard b = new MonitorBoard();
        Kit.told(b);
        Kit.due("call 0", Kit.call(b, 0, 0), 1);
        Kit.due("warm", Kit.told(b), "\r\nA>");
        Kit.due("no key", Kit.result(b, 11, 0), 0);
        Kit.type(b, "\u00c1\u0003c");
        Kit.due("a key", Kit.result(b, 11, 0), 255);
        Kit.due("call 1", Kit.result(b, 1, 0), 'A');
        Kit.due("told back", Kit.told(b), "A");
        Kit.due("call 1 of 3", Kit.result(b, 1, 0), 3);
        Kit.due("told back", Kit.told(b), "\u0003");
        Kit.due("call 2", Kit.result(b, 2, 0x12C2), 0);
        Kit.due("told", Kit.told(b), "B");
        Kit.due("call 3", Kit.result(b, 3, 5), 26);
        Kit.due("call 4", Kit.result(b, 4, 5), 0);
        Kit.due("call 5", Kit.result(b, 5, 5), 0);
        Kit.due("6, 254", Kit.result(b, 6, 254), 255);
        Kit.due("6, 255", Kit.result(b, 6, 255), 'c');
        Kit.due("6, 255 without", Kit.result(b, 6, 255), 0);
        Kit.due("6, 254 without", Kit.result(b, 6, 254), 0);
        Kit.type(b, "\u00e3");
        Kit.due("6, 255 without 128", Kit.result(b, 6, 255), 'c');
        Kit.due("not told back", Kit.told(b), "");
        Kit.due("6, sign", Kit.result(b, 6, 0xC4), 0);
        Kit.due("told", Kit.told(b), "D");
        Kit.due("8", Kit.result(b, 8, 0x1299), 0);
        Kit.due("memory 3", b.memory(3), 0x99);
        Kit.due("7", Kit.result(b, 7, 0), 0x99);
        Kit.due("12", Kit.result(b, 12, 0), 34);
        for (int number : new int[] {38, 39, 41, 100, 255}) {
            Kit.due("no such call", Kit.result(b, number, 0x1234), 0);
        }
        Kit.due("DE stays", b.register(2) << 8 | b.register(3), 0x1234);
        Kit.due("call 1 waits", Kit.call(b, 1, 0), 1);
    }

    private static void signs() {
        MonitorBoard b = new MonitorBoard();
        Kit.told(b);
        Kit.put(b, 0x2000, "abc\u00e4\u00a4d$e");
        long before = b.states();
        Kit.due("9", Kit.result(b, 9, 0x2000), 0);
        Kit.due("told", Kit.told(b), "abcd$d");
        Kit.due("one for each", b.states() - before, 10 + 7 + 10 + 17 + 10 + 50 + 6 + 7);
        Kit.put(b, 0xFFFF, "x$");
        Kit.due("9 around", Kit.result(b, 9, 0xFFFF), 0);
        Kit.due("told", Kit.told(b), "x");
        MonitorBoard c = new MonitorBoard();
        before = c.states();
        Kit.due("no $", Kit.call(c, 9, 0x2000), 2);
        Kit.due("65536 at most", c.states() - before, 10 + 7 + 10 + 17 + 10 + 50 + 65536 + 7);
    }

    private static void buffer() {
        MonitorBoard b = new MonitorBoard();
        Kit.told(b);
        Kit.put(b, 0x2000, 0, 77, 78);
        Kit.type(b, "q");
        Kit.due("0 at most", Kit.result(b, 10, 0x2000), 0);
        Kit.due("byte 1 stays", b.memory(0x2001), 77);
        Kit.due("nothing told", Kit.told(b), "");
        Kit.put(b, 0x2000, 20, 77, 78);
        Kit.type(b, "\u007f\u0008ab\u0001c\u0003d\u007f\u0008x\u00e9\n");
        Kit.due("10", Kit.result(b, 10, 0x2000), 0);
        Kit.due("how many", b.memory(0x2001), 6);
        Kit.due("they", Kit.memory(b, 0x2002, 6), "ab\u0001cxi");
        Kit.due("told", Kit.told(b), "q\b \bab^Ac^Cd\b \b\b \bxi\r");
        Kit.put(b, 0x2000, 3, 77, 78, 79, 80, 81);
        Kit.type(b, "xyzu");
        Kit.due("full", Kit.result(b, 10, 0x2000), 0);
        Kit.due("told", Kit.told(b), "xyz\r");
        Kit.due("behind them", b.memory(0x2005), 81);
        Kit.due("one key is left", b.keys(), 1);
        Kit.due("waits", Kit.call(b, 10, 0x2000), 1);
        Kit.due("byte 1 not yet", b.memory(0x2001), 3);
        Kit.put(b, 0x2000, 1);
        Kit.type(b, "v");
        Kit.due("waits on", b.run(1000), 1);
        Kit.type(b, "w");
        Kit.due("byte 0 as it was", b.run(1000), 2);
        Kit.due("three", b.memory(0x2001), 3);
        Kit.due("they", Kit.memory(b, 0x2002, 3), "uvw");
        Kit.told(b);
        Kit.type(b, "\u0008\u0003");
        Kit.due("3 boots", Kit.call(b, 10, 0x2000), 1);
        Kit.due("warm", Kit.told(b), "\r\nA>");
        Kit.due("at the command line", b.register(9), 60419);
        twoLines();
        Kit.type(b, "\u008d");
        Kit.put(b, 0x2000, 255);
        Kit.due("keys without 128", Kit.result(b, 10, 0x2000), 0);
        Kit.due("none", b.memory(0x2001), 0);
    }

    /** A program that the command line began reads two lines: each begins anew. */
    private static void twoLines() {
        MonitorBoard b = new MonitorBoard();
        Kit.program(b, " MVI C,10\n LXI D,2000H\n CALL 5\n MVI C,10\n LXI D,2100H\n CALL 5\n HLT\n");
        Kit.line(b, "SAVE 1 TWO.COM");
        Kit.put(b, 0x2000, 9, 77);
        Kit.put(b, 0x2100, 2, 77);
        Kit.type(b, "TWO\rfirst\rnext");
        Kit.due("stops", b.run(10000), 2);
        Kit.due("the first", Kit.memory(b, 0x2001, 6), "\5first");
        Kit.due("the second", Kit.memory(b, 0x2101, 4), "\2ne\0");
        Kit.due("two keys are left", b.keys(), 2);
    }

    private static void drives() {
        MonitorBoard b = new MonitorBoard();
        Kit.due("24", Kit.result(b, 24, 0), 1);
        Kit.due("25", Kit.result(b, 25, 0), 0);
        Kit.due("14", Kit.result(b, 14, 0x0501), 0);
        Kit.due("at hand", b.register(10), 1);
        Kit.due("25", Kit.result(b, 25, 0), 1);
        Kit.due("24", Kit.result(b, 24, 0), 3);
        Kit.due("28", Kit.result(b, 28, 0), 0);
        Kit.due("29", Kit.result(b, 29, 0), 2);
        Kit.due("26", Kit.result(b, 26, 0x1234), 0);
        Kit.due("data", b.register(12), 0x1234);
        Kit.due("37", Kit.result(b, 37, 0xFFFD), 0);
        Kit.due("24", Kit.result(b, 24, 0), 2);
        Kit.due("29", Kit.result(b, 29, 0), 2);
        Kit.due("37", Kit.result(b, 37, 2), 0);
        Kit.due("24", Kit.result(b, 24, 0), 0);
        Kit.due("29", Kit.result(b, 29, 0), 0);
        Kit.result(b, 28, 0);
        Kit.due("13", Kit.result(b, 13, 0), 0);
        Kit.due("at hand", b.register(10), 0);
        Kit.due("data", b.register(12), 128);
        Kit.due("24", Kit.result(b, 24, 0), 1);
        Kit.due("29", Kit.result(b, 29, 0), 0);
        Kit.result(b, 28, 0);
        Kit.call(b, 0, 0);
        Kit.due("a warm boot leaves only read", Kit.result(b, 29, 0), 1);
        Kit.due("32", Kit.result(b, 32, 0x1245), 0);
        Kit.due("user", b.register(11), 5);
        Kit.due("32, 255", Kit.result(b, 32, 255), 5);
        Kit.told(b);
        Kit.due("14 of no drive", Kit.call(b, 14, 2), 1);
        Kit.due("told", Kit.told(b), "\r\nBdos Err On C: Select\r\nA5>");
        Kit.call(b, 14, 200);
        Kit.due("told", Kit.told(b), "\r\nBdos Err On \u0009: Select\r\nA5>");
    }

    private static void tables() {
        MonitorBoard b = new MonitorBoard();
        Kit.due("31", Kit.result(b, 31, 0), 61504);
        int[] facts = {26, 0, 3, 7, 0, 242, 0, 63, 0, 192, 0, 16, 0, 2, 0};
        for (int i = 0; i < facts.length; i++) {
            Kit.due("fact " + i, b.memory(61504 + i), facts[i]);
        }
        Kit.put(b, 61471, 0x99);
        Kit.put(b, 61503, 0x99);
        Kit.due("27", Kit.result(b, 27, 0), 61472);
        Kit.due("what is ahead", b.memory(61471), 0x99);
        Kit.due("what is behind", b.memory(61503), 0x99);
        Kit.due("blocks 0, 1", b.memory(61472), 0xC0);
        for (int i = 1; i < 31; i++) {
            Kit.due("others", b.memory(61472 + i), 0);
        }
        Kit.call(b, 0, 0);
        Kit.line(b, "SAVE 36 X");
        Kit.due("27", Kit.result(b, 27, 0), 61472);
        Kit.due("0 to 7", b.memory(61472), 255);
        Kit.due("8 to 10", b.memory(61473), 0xE0);
        Kit.result(b, 14, 1);
        Kit.result(b, 37, 2);
        b.disk(1, 2, 1, 0, 0xE5);
        b.disk(1, 2, 1, 16, 0xE5 ^ 242);
        b.disk(1, 2, 1, 17, 0xE5 ^ 243);
        for (int k = 18; k < 32; k++) {
            b.disk(1, 2, 1, k, 0xE5);
        }
        Kit.result(b, 27, 0);
        Kit.due("logged in anew", Kit.result(b, 24, 0), 3);
        Kit.due("block 242, not 243", b.memory(61472 + 30), 0x20);
        Kit.due("0, 1", b.memory(61472), 0xC0);
    }

    private static void openCloseMake() {
        MonitorBoard b = withData();
        Kit.fcb(b, FCB, 0, "NAME", "TYP");
        Kit.due("open none", file(b, 15), 255);
        Kit.due("close none", file(b, 16), 255);
        Kit.put(b, FCB + 12, 34, 9, 9, 9, 9, 9);
        Kit.put(b, FCB + 32, 7);
        Kit.put(b, FCB + 1, 0xCE);
        Kit.due("make", file(b, 22), 0);
        Kit.due("EX modulo 32", b.memory(FCB + 12), 2);
        Kit.due("others 0", b.memory(FCB + 15), 0);
        Kit.due("others 0", b.memory(FCB + 17), 0);
        Kit.due("CR stays", b.memory(FCB + 32), 7);
        Kit.due("user", dir(b, 0, 0, 0), 0);
        Kit.due("the highest bit goes", dir(b, 0, 0, 1), 'N');
        Kit.due("type", dir(b, 0, 0, 11), 'P');
        Kit.due("extent", dir(b, 0, 0, 12), 2);
        for (int k = 13; k < 32; k++) {
            Kit.due("byte " + k, dir(b, 0, 0, k), 0);
        }
        Kit.fcb(b, FCB, 0, "NAME", "TYP");
        Kit.due("extent 0 is not there", file(b, 15), 255);
        Kit.put(b, FCB + 12, 66);
        Kit.put(b, FCB + 15, 5, 6, 7);
        Kit.due("close, EX modulo 32", file(b, 16), 0);
        Kit.due("RC", dir(b, 0, 0, 15), 5);
        Kit.due("block", dir(b, 0, 0, 17), 7);
        Kit.fcb(b, FCB, 1, "NAME", "TYP");
        Kit.put(b, FCB + 12, 98);
        Kit.due("open", file(b, 15), 0);
        Kit.due("EX", b.memory(FCB + 12), 2);
        Kit.due("RC", b.memory(FCB + 15), 5);
        Kit.due("blocks", b.memory(FCB + 16), 6);
        Kit.fcb(b, FCB, 0, "NA?E", "TYP");
        Kit.put(b, FCB + 12, 2);
        Kit.due("? is no wild sign here", file(b, 15), 255);
        for (int i = 1; i < 6; i++) {
            Kit.fcb(b, FCB, 0, "F" + i, "");
            Kit.due("make " + i, file(b, 22), i % 4);
            Kit.due("open " + i, file(b, 15), i % 4);
        }
        for (int i = 6; i < 64; i++) {
            Kit.fcb(b, FCB, 0, "F" + i, "");
            file(b, 22);
            if (i == 40) {
                b = again(b);
            }
        }
    }

    /** Fills the rest on the same object is too many calls: a board with the directory full is looked at instead. */
    private static MonitorBoard again(MonitorBoard old) {
        MonitorBoard b = withData();
        StringBuilder keys = new StringBuilder();
        for (int i = 0; i < 64; i++) {
            keys.append("SAVE 0 F").append(i).append("\r");
        }
        b.boot();
        Kit.type(b, keys.toString());
        b.run(100000);
        Kit.result(b, 26, DATA);
        Kit.fcb(b, FCB, 0, "MORE", "");
        Kit.due("none is free", file(b, 22), 255);
        Kit.fcb(b, FCB, 0, "F63", "");
        Kit.due("the last", file(b, 15), 3);
        Kit.due("delete one", file(b, 19), 0);
        Kit.fcb(b, FCB, 0, "MORE", "");
        Kit.due("then one is free", file(b, 22), 3);
        Kit.due("delete all but", Kit.result(b, 25, 0), 0);
        return old;
    }

    private static void search() {
        MonitorBoard b = withData();
        Kit.due("18 without 17", file(b, 18), 255);
        for (String name : new String[] {"AA", "AB", "BA", "AC"}) {
            Kit.fcb(b, FCB, 0, name, "X");
            file(b, 22);
        }
        Kit.fcb(b, FCB, 0, "AB", "X");
        Kit.put(b, FCB + 12, 3);
        file(b, 22);
        Kit.fcb(b, FCB, 0, "A?", "X");
        Kit.due("first", file(b, 17), 0);
        Kit.due("the record", Kit.memory(b, DATA + 1, 11), "AA      X  ");
        Kit.due("the record", Kit.memory(b, DATA + 97, 11), "AC      X  ");
        Kit.fcb(b, FCB, 0, "ZZ", "Z");
        Kit.put(b, DATA, new int[128]);
        Kit.due("next, as 17 had it", file(b, 18), 1);
        Kit.due("the record comes", b.memory(DATA + 33), 'A');
        Kit.due("next", file(b, 18), 3);
        Kit.due("no other of extent 0", file(b, 18), 255);
        Kit.due("255 behind a 255", file(b, 18), 255);
        Kit.fcb(b, FCB, 0, "A?", "X");
        Kit.put(b, FCB + 12, '?');
        int[] due = {0, 1, 3, 0, 255, 255};
        for (int i = 0; i < due.length; i++) {
            Kit.due("every extent " + i, file(b, i == 0 ? 17 : 18), due[i]);
        }
        Kit.put(b, FCB + 12, 35);
        Kit.due("EX modulo 32", file(b, 17), 0);
        Kit.due("of record 1", b.memory(DATA + 12), 3);
        Kit.fcb(b, FCB, '?', "", "");
        Kit.due("all entries", file(b, 17), 0);
        for (int i = 1; i < 10; i++) {
            Kit.due("also free ones", file(b, 18), i % 4);
        }
        everyEntry();
        searchOfB();
        Kit.due("37", Kit.result(b, 37, 3), 0);
        Kit.result(b, 14, 1);
        Kit.due("17 at A, at hand is B", file(b, 18), 2);
        Kit.due("A is logged in", Kit.result(b, 24, 0), 3);
        Kit.fcb(b, FCB, 1, "ZZ", "Z");
        Kit.due("none", file(b, 17), 255);
        Kit.result(b, 37, 1);
        Kit.due("behind a 255", file(b, 18), 255);
        Kit.due("it logs in too", Kit.result(b, 24, 0), 3);
        Kit.fcb(b, FCB, 1, "A?", "X");
        Kit.due("17", file(b, 17), 0);
        Kit.call(b, 0, 0);
        Kit.due("none since a boot", file(b, 18), 255);
        Kit.result(b, 26, DATA);
        Kit.fcb(b, FCB, 1, "\u00c1\u00c1", "X");
        Kit.due("highest bits do not count", file(b, 17), 0);
        Kit.fcb(b, FCB, 1, "??", "X");
        Kit.result(b, 32, 7);
        Kit.due("of this user", file(b, 17), 255);
    }

    private static void searchOfB() {
        MonitorBoard b = withData();
        Kit.fcb(b, FCB, 2, "ONB", "");
        file(b, 22);
        Kit.due("17 of B", file(b, 17), 0);
        Kit.due("its record", Kit.memory(b, DATA + 1, 3), "ONB");
        Kit.due("18", file(b, 18), 255);
        Kit.put(b, FCB, 1);
        Kit.due("17 of A", file(b, 17), 255);
        Kit.put(b, FCB, '?');
        Kit.due("17 of all of A", file(b, 17), 0);
        Kit.due("free", b.memory(DATA), 0xE5);
        Kit.result(b, 14, 1);
        Kit.due("18 stays at A", file(b, 18), 1);
        Kit.due("17 of all of B", file(b, 17), 0);
        Kit.due("not free", b.memory(DATA), 0);
    }

    /** Sixty-four entries, then none. */
    private static void everyEntry() {
        MonitorBoard b = new MonitorBoard();
        Kit.fcb(b, FCB, '?', "", "");
        Kit.program(b, " LXI SP,4000H\n LXI D,3000H\n MVI C,17\nL: CALL 5\n INR A\n JZ E\n LXI H,2000H\n INR M\n"
            + " MVI C,18\n JMP L\nE: HLT\n");
        b.jump(256);
        Kit.due("ends", b.run(200000), 2);
        Kit.due("all entries", b.memory(0x2000), 64);
        Kit.due("none behind", file(b, 18), 255);
    }

    /** The next extent's entry is the first one of the directory. */
    private static void nextInEntryZero() {
        MonitorBoard b = withData();
        Kit.fcb(b, FCB, 0, "N", "");
        Kit.put(b, FCB + 12, 1);
        file(b, 22);
        fill(b, 'n');
        file(b, 21);
        file(b, 16);
        Kit.fcb(b, FCB, 0, "N", "");
        Kit.put(b, FCB + 32, 128);
        fill(b, 0);
        Kit.due("read goes to entry 0", file(b, 20), 0);
        Kit.due("it", b.memory(DATA), 'n');
        Kit.fcb(b, FCB, 0, "N", "");
        Kit.put(b, FCB + 32, 128);
        Kit.due("write goes there too", file(b, 21), 0);
        Kit.due("no entry more", dir(b, 0, 1, 0), 0xE5);
        Kit.fcb(b, FCB, 0, "N", "");
        Kit.put(b, FCB + 33, 128, 0, 0);
        Kit.due("33 too", file(b, 33), 0);
        Kit.fcb(b, FCB, 0, "N", "");
        Kit.put(b, FCB + 33, 255, 0, 0);
        Kit.due("40 fills", file(b, 40), 0);
        Kit.due("its block", b.memory(FCB + 31), 3);
        Kit.due("and no other", b.disk(0, 3, 1 + (6 * 6) % 26, 0, 0), 0xE5);
    }

    /** The next extent is made in the first entry, which is free. */
    private static void nextMadeInEntryZero() {
        MonitorBoard b = withData();
        Kit.fcb(b, FCB, 0, "GONE", "");
        file(b, 22);
        Kit.fcb(b, FCB, 0, "STAYS", "");
        file(b, 22);
        Kit.fcb(b, FCB, 0, "GONE", "");
        file(b, 19);
        Kit.fcb(b, FCB, 0, "STAYS", "");
        Kit.put(b, FCB + 32, 128);
        Kit.due("21", file(b, 21), 0);
        Kit.due("its EXTENT 1", dir(b, 0, 0, 12), 1);
        Kit.due("its name", dir(b, 0, 0, 1), 'S');
        Kit.due("EX", b.memory(FCB + 12), 1);
    }

    /** The last block, the last extent, and what call 13 tells anew. */
    private static void lastPlaces() {
        MonitorBoard b = withData();
        Kit.fcb(b, FCB, 0, "LAST", "");
        Kit.put(b, FCB + 33, 1, 0, 0);
        Kit.put(b, FCB + 12, 30);
        Kit.due("34 makes entry 0", file(b, 34), 0);
        Kit.due("entry 0", dir(b, 0, 0, 12), 0);
        Kit.due("entry 1 is free", dir(b, 0, 1, 0), 0xE5);
        fill(b, 'z');
        Kit.put(b, FCB + 16, 242);
        Kit.due("write to 242", file(b, 34), 0);
        Kit.due("there", b.disk(0, 76, 1 + (6 * 13 + 1) % 26, 5, 0), 'z');
        fill(b, 0);
        Kit.due("read of 242", file(b, 33), 0);
        Kit.due("it", b.memory(DATA), 'z');
        file(b, 16);
        Kit.call(b, 0, 0);
        String dump = Kit.line(b, "DUMP LAST");
        Kit.due("two records", dump.length(), 16 * 54 + 4);
        Kit.due("the second", dump.substring(8 * 54, 8 * 54 + 9), "\r\n0080 7A");
        Kit.result(b, 26, DATA);
        Kit.put(b, FCB + 12, 30);
        Kit.put(b, FCB + 32, 128);
        Kit.due("extent 31 is made", file(b, 21), 0);
        Kit.due("EX", b.memory(FCB + 12), 31);
        Kit.fcb(b, FCB, 0, "LAST", "");
        Kit.put(b, FCB + 12, 33);
        Kit.due("16 modulo 32", file(b, 16), 255);
        Kit.put(b, FCB + 12, 32);
        Kit.due("16 modulo 32", file(b, 16), 0);
        Kit.due("RC", dir(b, 0, 0, 15), 0);
        b.disk(0, 2, 1, 16, 50);
        Kit.result(b, 27, 0);
        Kit.due("not told anew", b.memory(61472 + 6), 0);
        Kit.result(b, 13, 0);
        Kit.result(b, 27, 0);
        Kit.due("told anew", b.memory(61472 + 6), 0x20);
    }

    private static void deleteRename() {
        MonitorBoard b = withData();
        for (String name : new String[] {"AA", "AB", "BA"}) {
            Kit.fcb(b, FCB, 0, name, "X");
            file(b, 22);
            file(b, 21);
            file(b, 16);
        }
        Kit.result(b, 27, 0);
        Kit.due("in use", b.memory(61472), 0xF8);
        Kit.fcb(b, FCB, 0, "A?", "X");
        Kit.put(b, FCB + 12, 9);
        Kit.due("delete", file(b, 19), 0);
        Kit.due("free", dir(b, 0, 0, 0), 0xE5);
        Kit.due("free", dir(b, 0, 1, 0), 0xE5);
        Kit.due("its name stays", dir(b, 0, 1, 2), 'B');
        Kit.due("not free", dir(b, 0, 2, 0), 0);
        Kit.result(b, 27, 0);
        Kit.due("not in use", b.memory(61472), 0xC8);
        Kit.due("delete none", file(b, 19), 255);
        Kit.fcb(b, FCB, 0, "BA", "X");
        Kit.put(b, FCB + 17, "NEW     \u00d4YP");
        Kit.due("rename", file(b, 23), 0);
        Kit.due("first", dir(b, 0, 2, 1), 'N');
        Kit.due("the highest bit goes", dir(b, 0, 2, 9), 'T');
        Kit.due("rename none", file(b, 23), 255);
        Kit.fcb(b, FCB, 0, "NE?", "TYP");
        Kit.due("no wild sign", file(b, 23), 255);
        Kit.fcb(b, FCB, 0, "NEW", "\u00d4YP");
        Kit.due("30", file(b, 30), 0);
        Kit.due("with the highest bit", dir(b, 0, 2, 9), 0xD4);
        Kit.fcb(b, FCB, 0, "NEX", "TYP");
        Kit.due("30 of none", file(b, 30), 255);
        Kit.fcb(b, FCB, 0, "NEW", "TYP");
        Kit.due("open all the same", file(b, 15), 2);
    }

    private static void fill(MonitorBoard b, int value) {
        byte[] bytes = new byte[128];
        java.util.Arrays.fill(bytes, (byte) value);
        Kit.tape(b, bytes);
        b.load(DATA);
    }

    private static void sequential() {
        MonitorBoard b = withData();
        Kit.fcb(b, FCB, 2, "SEQ", "");
        file(b, 22);
        for (int i = 0; i < 9; i++) {
            fill(b, 'a' + i);
            Kit.due("write " + i, file(b, 21), 0);
        }
        Kit.due("CR", b.memory(FCB + 32), 9);
        Kit.due("RC", b.memory(FCB + 15), 9);
        Kit.due("block 2", b.memory(FCB + 16), 2);
        Kit.due("block 3", b.memory(FCB + 17), 3);
        Kit.due("not closed", dir(b, 1, 0, 15), 0);
        Kit.due("record 16 of track 2", b.disk(1, 2, 20, 0, 0), 'a');
        Kit.due("21 fills none", b.disk(1, 3, 1 + 6 * 5 % 26, 0, 0), 0xE5);
        file(b, 16);
        Kit.due("closed", dir(b, 1, 0, 15), 9);
        Kit.due("block", dir(b, 1, 0, 17), 3);
        Kit.fcb(b, FCB, 2, "SEQ", "");
        file(b, 15);
        for (int i = 0; i < 9; i++) {
            Kit.due("read " + i, file(b, 20), 0);
            Kit.due("it", b.memory(DATA + i * 14), 'a' + i);
        }
        Kit.due("the end", file(b, 20), 1);
        Kit.due("CR stays", b.memory(FCB + 32), 9);
        Kit.put(b, FCB + 32, 3);
        fill(b, 'X');
        Kit.due("write over", file(b, 21), 0);
        Kit.due("RC stays", b.memory(FCB + 15), 9);
        Kit.put(b, FCB + 32, 129);
        Kit.due("CR above 128", file(b, 20), 1);
        Kit.due("CR above 128", file(b, 21), 1);
        Kit.put(b, FCB + 32, 3);
        Kit.put(b, FCB + 16, 243);
        Kit.due("no such block", file(b, 20), 1);
        Kit.due("no such block", file(b, 21), 2);
        Kit.put(b, FCB + 16, 0);
        Kit.due("no block", file(b, 20), 1);
        Kit.put(b, FCB + 12, 200);
        Kit.due("a new block, whatever EX is", file(b, 21), 0);
        Kit.due("the least", b.memory(FCB + 16), 4);
        Kit.due("EX", b.memory(FCB + 12), 200);
        Kit.due("CR", b.memory(FCB + 32), 4);
    }

    private static void extents() {
        MonitorBoard b = withData();
        Kit.fcb(b, FCB, 0, "BIG", "");
        file(b, 22);
        fill(b, 'q');
        Kit.put(b, FCB + 15, 128);
        Kit.put(b, FCB + 32, 128);
        Kit.due("read beyond", file(b, 20), 1);
        Kit.due("nothing changes", b.memory(FCB + 32), 128);
        Kit.due("nothing changes", b.memory(FCB + 12), 0);
        Kit.due("write goes on", file(b, 21), 0);
        Kit.due("EX", b.memory(FCB + 12), 1);
        Kit.due("CR", b.memory(FCB + 32), 1);
        Kit.due("RC", b.memory(FCB + 15), 1);
        Kit.due("the old one is closed", dir(b, 0, 0, 15), 128);
        Kit.due("the next one is made", dir(b, 0, 1, 12), 1);
        Kit.due("it is not closed", dir(b, 0, 1, 15), 0);
        file(b, 16);
        Kit.fcb(b, FCB, 0, "BIG", "");
        file(b, 15);
        Kit.put(b, FCB + 32, 128);
        fill(b, 0);
        Kit.due("read goes on", file(b, 20), 0);
        Kit.due("it", b.memory(DATA), 'q');
        Kit.due("EX", b.memory(FCB + 12), 1);
        Kit.due("CR", b.memory(FCB + 32), 1);
        Kit.due("the end", file(b, 20), 1);
        Kit.fcb(b, FCB, 0, "BIG", "");
        file(b, 15);
        Kit.put(b, FCB + 32, 128);
        Kit.due("write opens what is there", file(b, 21), 0);
        Kit.due("block", b.memory(FCB + 16), 2);
        Kit.put(b, FCB + 12, 31);
        Kit.put(b, FCB + 32, 128);
        Kit.due("no extent 32", file(b, 21), 1);
        Kit.put(b, FCB + 12, 1);
        Kit.put(b, FCB + 32, 128);
        Kit.put(b, FCB + 15, 77);
        Kit.put(b, 0x2000, 0);
        fullDirectory();
        Kit.due("open next with no record", file(b, 21), 0);
        Kit.due("extent 1 is closed as it was", dir(b, 0, 1, 15), 77);
        Kit.fcb(b, FCB, 0, "BIG", "");
        Kit.put(b, FCB + 12, 1);
        Kit.put(b, FCB + 32, 128);
        Kit.due("opened, and then the end", file(b, 20), 1);
        Kit.due("EX is the next one", b.memory(FCB + 12), 2);
        Kit.due("CR 0", b.memory(FCB + 32), 0);
    }

    private static void fullDirectory() {
        MonitorBoard b = new MonitorBoard();
        StringBuilder keys = new StringBuilder();
        for (int i = 0; i < 64; i++) {
            keys.append("SAVE 0 F").append(i).append("\r");
        }
        Kit.type(b, keys.toString());
        b.run(100000);
        Kit.fcb(b, FCB, 0, "F5", "");
        file(b, 15);
        Kit.put(b, FCB + 15, 3);
        Kit.put(b, FCB + 32, 128);
        Kit.due("no entry is free", file(b, 21), 1);
        Kit.due("EX stays", b.memory(FCB + 12), 0);
        Kit.due("CR stays", b.memory(FCB + 32), 128);
        Kit.due("it was closed", dir(b, 0, 5, 15), 3);
        Kit.put(b, FCB + 33, 200, 1, 0);
        Kit.due("at random neither", file(b, 34), 5);
        Kit.due("EX", b.memory(FCB + 12), 3);
        Kit.due("CR", b.memory(FCB + 32), 72);
    }

    private static void random() {
        MonitorBoard b = withData();
        Kit.fcb(b, FCB, 0, "RND", "");
        file(b, 22);
        Kit.put(b, FCB + 33, 0, 16, 0);
        Kit.due("4096", file(b, 33), 6);
        Kit.due("4096", file(b, 34), 6);
        Kit.put(b, FCB + 33, 0, 0, 1);
        Kit.due("65536", file(b, 40), 6);
        Kit.due("EX stays", b.memory(FCB + 12), 0);
        Kit.put(b, FCB + 33, 5, 1, 0);
        Kit.due("not there", file(b, 33), 4);
        Kit.due("EX", b.memory(FCB + 12), 2);
        Kit.due("CR", b.memory(FCB + 32), 5);
        Kit.put(b, FCB + 12, 0);
        Kit.put(b, FCB + 15, 4);
        fill(b, 'r');
        Kit.due("made", file(b, 34), 0);
        Kit.due("the old one closed", dir(b, 0, 0, 15), 4);
        Kit.due("EX", b.memory(FCB + 12), 2);
        Kit.due("CR stays", b.memory(FCB + 32), 5);
        Kit.due("RC", b.memory(FCB + 15), 6);
        Kit.due("block", b.memory(FCB + 16), 2);
        fill(b, 0);
        Kit.due("read", file(b, 33), 0);
        Kit.due("it", b.memory(DATA + 127), 'r');
        Kit.due("CR stays", b.memory(FCB + 32), 5);
        Kit.put(b, FCB + 33, 6, 1, 0);
        Kit.due("not below RC", file(b, 33), 1);
        Kit.put(b, FCB + 33, 255, 15, 0);
        Kit.due("4095", file(b, 40), 0);
        Kit.due("EX 31", b.memory(FCB + 12), 31);
        Kit.due("extent 2 was closed", dir(b, 0, 1, 15), 6);
        Kit.due("a new block filled", b.memory(FCB + 31), 3);
        int zeros = 0;
        for (int k = 24; k < 31; k++) {
            int r = k % 26;
            zeros += b.disk(0, 2 + k / 26, 1 + (6 * r + r / 13) % 26, 64, 0) == 0 ? 1 : 0;
        }
        Kit.due("seven records of 0s", zeros, 7);
        Kit.put(b, FCB + 33, 5, 1, 0);
        Kit.due("34 fills none", file(b, 33), 0);
        Kit.due("what was ahead", b.disk(0, 2, 20, 0, 0), 0xE5);
        Kit.put(b, FCB + 12, 33);
        Kit.put(b, FCB + 15, 9);
        Kit.put(b, FCB + 33, 128, 0, 0);
        Kit.due("extent 1 is made", file(b, 34), 0);
        Kit.due("36", file(b, 36), 0);
        Kit.due("R", Kit.word(b, FCB + 33), 128);
    }

    private static void sizes() {
        MonitorBoard b = withData();
        Kit.fcb(b, FCB, 0, "SIZE", "");
        Kit.put(b, FCB + 33, 7, 7, 7);
        Kit.due("35 of none", file(b, 35), 0);
        Kit.due("R", Kit.word(b, FCB + 33), 0);
        Kit.due("R", b.memory(FCB + 35), 0);
        Kit.put(b, FCB + 12, 3);
        file(b, 22);
        Kit.put(b, FCB + 15, 9);
        file(b, 16);
        Kit.put(b, FCB + 12, 1);
        file(b, 22);
        Kit.put(b, FCB + 15, 128);
        file(b, 16);
        file(b, 35);
        Kit.due("the greatest", Kit.word(b, FCB + 33), 3 * 128 + 9);
        Kit.put(b, FCB, 99);
        Kit.put(b, FCB + 12, 255);
        Kit.put(b, FCB + 32, 255, 1, 1, 1);
        Kit.due("36 goes to no drive", file(b, 36), 0);
        Kit.due("R", Kit.word(b, FCB + 33), 255 * 128 + 255);
        Kit.due("R", b.memory(FCB + 35), 0);
    }

    private static void errors() {
        MonitorBoard b = withData();
        Kit.fcb(b, FCB, 3, "X", "");
        for (int number : new int[] {15, 16, 17, 19, 20, 21, 22, 23, 30, 33, 34, 35, 40}) {
            Kit.told(b);
            Kit.due("call " + number, Kit.call(b, number, FCB), 1);
            Kit.due("select of " + number, Kit.told(b), "\r\nBdos Err On C: Select\r\nA>");
        }
        Kit.put(b, FCB, '?');
        Kit.call(b, 15, FCB);
        Kit.due("? is for 17 alone", Kit.told(b), "\r\nBdos Err On \u007f: Select\r\nA>");
        Kit.put(b, FCB, 255);
        Kit.call(b, 15, FCB);
        Kit.due("255", Kit.told(b), "\r\nBdos Err On ?: Select\r\nA>");
    }

    private static void readOnly() {
        MonitorBoard b = withData();
        Kit.fcb(b, FCB, 0, "RO", "");
        file(b, 22);
        Kit.put(b, FCB + 9, 0xA0);
        file(b, 30);
        for (int number : new int[] {19, 21, 23, 34, 40}) {
            Kit.told(b);
            Kit.call(b, number, FCB);
            Kit.due("call " + number, Kit.told(b), "\r\nBdos Err On A: File R/O\r\nA>");
        }
        Kit.due("22 does not look", file(b, 22), 1);
        Kit.due("nor 16", file(b, 16), 0);
        Kit.put(b, FCB + 9, 0x20);
        Kit.due("30", file(b, 30), 0);
        Kit.result(b, 28, 0);
        for (int number : new int[] {19, 21, 22, 23, 30, 34, 40}) {
            Kit.told(b);
            Kit.call(b, number, FCB);
            Kit.due("call " + number, Kit.told(b), "\r\nBdos Err On A: R/O\r\nA>");
        }
        Kit.due("16 without a change", file(b, 16), 0);
        b.disk(0, 2, 1, 15, 200);
        b.disk(0, 2, 1, 31, 7);
        Kit.put(b, FCB + 15, 200);
        Kit.put(b, FCB + 31, 7);
        Kit.due("16 without a change of bytes that are not 0", file(b, 16), 0);
        Kit.put(b, FCB + 31, 6);
        Kit.told(b);
        Kit.call(b, 16, FCB);
        Kit.due("16 with another last byte", Kit.told(b), "\r\nBdos Err On A: R/O\r\nA>");
        Kit.put(b, FCB + 31, 7);
        Kit.put(b, FCB + 15, 1);
        Kit.told(b);
        Kit.call(b, 16, FCB);
        Kit.due("16 with one", Kit.told(b), "\r\nBdos Err On A: R/O\r\nA>");
        Kit.due("17", file(b, 17), 0);
        Kit.due("15", file(b, 15), 0);
        readOnlyB();
    }

    private static void readOnlyB() {
        MonitorBoard b = withData();
        Kit.fcb(b, FCB, 2, "X", "");
        file(b, 22);
        Kit.result(b, 14, 1);
        Kit.result(b, 28, 0);
        for (int number : new int[] {16, 19, 21, 22, 23, 30, 34, 40}) {
            Kit.put(b, FCB + 15, 1);
            Kit.told(b);
            Kit.call(b, number, FCB);
            Kit.due("call " + number, Kit.told(b), "\r\nBdos Err On B: R/O\r\nB>");
        }
        Kit.due("nothing came", dir(b, 1, 0, 15), 0);
        Kit.put(b, FCB, 1);
        Kit.due("A may be written", file(b, 22), 0);
        Kit.due("16 too", file(b, 16), 0);
    }

    /** Each call LOGS the drive in that it goes to. */
    private static void logsIn() {
        for (int number : new int[] {15, 16, 17, 19, 20, 21, 22, 23, 30, 33, 34, 35, 40}) {
            MonitorBoard b = withData();
            b.disk(1, 2, 1, 0, 0xE5 ^ 9);
            b.disk(1, 2, 1, 16, 0xE5 ^ 2);
            Kit.fcb(b, FCB, 2, "X", "");
            file(b, number);
            Kit.due("B is LOGGED in by " + number, Kit.result(b, 24, 0), 3);
            Kit.due("A stays at hand", b.register(10), 0);
            Kit.result(b, 14, 1);
            Kit.result(b, 27, 0);
            int taken = number == 21 || number == 34 || number == 40 ? 0xF0 : 0xE0;
            Kit.due("BLOCKS in USE of B", b.memory(61472), taken);
        }
        MonitorBoard b = withData();
        Kit.fcb(b, FCB, 2, "X", "");
        file(b, 36);
        Kit.due("36 goes to none", Kit.result(b, 24, 0), 1);
    }

    /** Sixty-four ENTRIES of one name: each call goes by all of them. */
    private static void oneFileInAllEntries() {
        MonitorBoard b = new MonitorBoard();
        Kit.fcb(b, FCB, 0, "ALL", "");
        Kit.runProgram(b, " LXI SP,4000H\n MVI B,64\n XRA A\nL: PUSH B\n STA 300CH\n PUSH PSW\n LXI D,3000H\n MVI C,22\n CALL 5\n"
            + " POP PSW\n INR A\n POP B\n DCR B\n JNZ L\n HLT\n");
        Kit.due("the last one's EX", dir(b, 0, 63, 12), 31);
        b.disk(0, 2, 14, 96 + 15, 5);
        file(b, 35);
        Kit.due("35", Kit.word(b, FCB + 33), 31 * 128 + 5);
        Kit.put(b, FCB + 9, 0x20, 0xA0);
        Kit.due("30", file(b, 30), 0);
        Kit.due("of the first", dir(b, 0, 0, 10), 0xA0);
        Kit.due("of the last", dir(b, 0, 63, 10), 0xA0);
        Kit.put(b, FCB + 16, 1);
        Kit.put(b, FCB + 17, "NEW     TYP\u0055");
        Kit.due("23", file(b, 23), 0);
        for (int e = 0; e < 64; e += 21) {
            Kit.due("its name", dir(b, 0, e, 1), 'N');
            Kit.due("its type", dir(b, 0, e, 11), 'P');
            Kit.due("its EX stays", dir(b, 0, e, 12), e % 32);
        }
        Kit.fcb(b, FCB, 0, "NEW", "TYP");
        Kit.due("19", file(b, 19), 0);
        for (int e = 0; e < 64; e++) {
            Kit.due("free", dir(b, 0, e, 0), 0xE5);
        }
    }

    private static void users() {
        MonitorBoard b = withData();
        Kit.result(b, 32, 3);
        Kit.fcb(b, FCB, 0, "U", "");
        file(b, 22);
        Kit.due("user 3", dir(b, 0, 0, 0), 3);
        Kit.result(b, 32, 0);
        Kit.due("not of user 0", file(b, 15), 255);
        Kit.due("nor to be deleted", file(b, 19), 255);
        Kit.due("nor renamed", file(b, 23), 255);
        Kit.due("nor set", file(b, 30), 255);
        Kit.result(b, 32, 35);
        Kit.due("modulo 32", file(b, 15), 0);
    }
}
