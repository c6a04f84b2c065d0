/** The boundary cases of Part IV that the calls with an FCB have: EX, CR, RC, R, BLOCKS, ENTRIES, errors. */
public final class FileEdgesTest {
    private static final int FCB = 0x3000;
    private static final int DATA = 0x3100;
    private static final int[] WITH_FCB = {15, 16, 17, 19, 20, 21, 22, 23, 30, 33, 34, 35, 40};

    public static void main(String[] args) {
        openByExtent();
        openFirstOfTwo();
        openNone();
        openBringsNoName();
        closeByExtent();
        closeFirstOfTwo();
        makeByExtent();
        makeInFullDirectory();
        numbersOfEntries();
        searchByExtent();
        searchOfEveryEntry();
        searchBehindTheLast();
        searchSinceBoot();
        searchKeepsItsDrive();
        deleteAll();
        deleteNone();
        renameAll();
        attributesAll();
        readEdges();
        readNextExtent();
        readEmptyNextExtent();
        writeEdges();
        writeNextExtent();
        writeNextExtentRefused();
        writeLastBlock();
        writeFullDisk();
        placeBeyond();
        placeOfEachExtent();
        placeNotThere();
        placeCloses();
        placeInFullDirectory();
        placeOnFullDisk();
        placeFilled();
        sizes();
        placeTold();
        selectErrors();
        readOnlyDrive();
        readOnlyFile();
        fcbAround();
        dataAround();
        otherUsers();
        Kit.finish();
    }

    private static int file(MonitorBoard b, int number) {
        return Kit.result(b, number, FCB);
    }

    private static MonitorBoard board(byte[]... entries) {
        MonitorBoard b = new MonitorBoard();
        if (entries.length > 0) {
            Kit.entries(b, 0, 0, entries);
        }
        Kit.result(b, 26, DATA);
        return b;
    }

    /** An FCB with EX, RC, one BLOCK, CR and R. */
    private static void fcb(MonitorBoard b, String name, int ex, int rc, int block, int cr, int r) {
        byte[] all = new byte[36];
        System.arraycopy(Kit.entry(0, name, "", ex, rc, block), 0, all, 0, 32);
        all[32] = (byte) cr;
        all[33] = (byte) r;
        all[34] = (byte) (r >> 8);
        all[35] = (byte) (r >> 16);
        Kit.tape(b, all);
        b.load(FCB);
    }

    private static String shown(MonitorBoard b) {
        return Kit.memory(b, FCB, 36);
    }

    private static int ex(MonitorBoard b) {
        return b.memory(FCB + 12);
    }

    private static int rc(MonitorBoard b) {
        return b.memory(FCB + 15);
    }

    private static int block(MonitorBoard b, int slot) {
        return b.memory(FCB + 16 + slot);
    }

    private static int cr(MonitorBoard b) {
        return b.memory(FCB + 32);
    }

    /** 64 files F0 .. F63, each in its ENTRY, of no records. */
    private static MonitorBoard fullDirectory() {
        MonitorBoard b = new MonitorBoard();
        StringBuilder keys = new StringBuilder();
        for (int i = 0; i < 64; i++) {
            keys.append("SAVE 0 F").append(i).append("\r");
        }
        Kit.type(b, keys.toString());
        b.run(10);
        b.console();
        Kit.result(b, 26, DATA);
        return b;
    }

    /** A drive on which so many BLOCKS are not in USE, the last ones: 16 ENTRIES of another USER tell all others. */
    private static MonitorBoard fullDisk(int left) {
        MonitorBoard b = new MonitorBoard();
        int next = 2;
        for (int record = 0; record < 4; record++) {
            byte[][] entries = new byte[4][];
            for (int i = 0; i < 4; i++) {
                int[] blocks = new int[16];
                for (int k = 0; k < 16 && next <= 242 - left; k++) {
                    blocks[k] = next;
                    next++;
                }
                entries[i] = Kit.entry(9, "TAKES", "", record, 128, blocks);
            }
            Kit.entries(b, 0, record, entries);
        }
        Kit.result(b, 26, DATA);
        return b;
    }

    /** 15: EX modulo 32. */
    private static void openByExtent() {
        int[][] due = {{0, 0}, {31, 1}, {32, 0}, {63, 1}, {224, 0}, {255, 1}, {1, 255}, {30, 255}, {33, 255}};
        MonitorBoard b = board(Kit.entry(0, "X", "", 0, 3, 5), Kit.entry(0, "X", "", 31, 4, 6), Kit.entry(0, "X", "", 33, 9, 9));
        for (int[] d : due) {
            fcb(b, "X", d[0], 99, 98, 97, 96);
            Kit.due("open EX " + d[0], file(b, 15), d[1]);
            Kit.due("EX", ex(b), d[1] == 255 ? d[0] : d[1] * 31);
            Kit.due("RC", rc(b), d[1] == 255 ? 99 : 3 + d[1]);
            Kit.due("BLOCK", block(b, 0), d[1] == 255 ? 98 : 5 + d[1]);
            Kit.due("CR stays", cr(b), 97);
        }
    }

    /** The ENTRY of an EXTENT with a number is the first that has it. */
    private static void openFirstOfTwo() {
        MonitorBoard b = board(Kit.entry(1, "X", "", 0, 1, 5), Kit.entry(0, "X", "Y", 0, 2, 6), Kit.entry(0, "X", "", 0, 3, 7),
            Kit.entry(0, "X", "", 0, 4, 8));
        fcb(b, "X", 0, 0, 0, 0, 0);
        Kit.due("the first of this USER", file(b, 15), 2);
        Kit.due("RC", rc(b), 3);
        fcb(b, "X", 0, 3, 7, 2, 2);
        Kit.put(b, FCB + 12, 1);
        Kit.due("33 opens it, too", file(b, 33), 0);
        Kit.due("its BLOCK", block(b, 0), 7);
        Kit.call(b, 0, 0);
        Kit.due("DUMP reads it", Kit.line(b, "DUMP X").length(), 3 * 8 * 54 + 4);
    }

    /** 255 without one: the FCB stays. */
    private static void openNone() {
        MonitorBoard b = board(Kit.entry(0xE5, "X", "", 0, 1, 5), Kit.entry(0, "XX", "", 0, 1, 5), Kit.entry(32, "X", "", 0, 1, 5));
        fcb(b, "X", 7, 6, 5, 4, 3);
        String before = shown(b);
        for (int number : new int[] {15, 16, 17, 19, 23, 30}) {
            Kit.due("call " + number, file(b, number), 255);
            Kit.due("the FCB stays", shown(b), before);
        }
        Kit.put(b, FCB + 2, "?");
        Kit.put(b, FCB + 12, 0);
        for (int number : new int[] {15, 16, 23, 30}) {
            Kit.due("? is a sign as others for " + number, file(b, number), 255);
        }
        Kit.due("the ENTRY stays", Kit.entryByte(b, 0, 1, 15), 1);
        Kit.due("17 finds it", file(b, 17), 1);
    }

    /** 15: bytes 12 .. 31 come to the FCB, and no other. */
    private static void openBringsNoName() {
        byte[] entry = Kit.entry(0, "\u00d8", "\u00a0\u00a0\u00a0", 0, 7, 5);
        entry[13] = 3;
        entry[14] = 4;
        entry[31] = 9;
        MonitorBoard b = board(entry);
        fcb(b, "X", 0, 1, 2, 66, 0x434241);
        Kit.due("open", file(b, 15), 0);
        Kit.due("the FCB", shown(b), "\0X          \0\3\4\7\5" + "\0".repeat(14) + "\tBABC");
    }

    /** 16: EX modulo 32; RC and BLOCKS (15 .. 31) come to the ENTRY, nothing else. */
    private static void closeByExtent() {
        MonitorBoard b = board(Kit.entry(0, "X", "\u00a0", 0, 3, 5), Kit.entry(0, "X", "", 31, 4, 6));
        for (int ex : new int[] {0, 31, 32, 63, 224, 255}) {
            int which = ex % 32 == 0 ? 0 : 1;
            byte[] all = new byte[36];
            java.util.Arrays.fill(all, (byte) (ex + 1));
            System.arraycopy(Kit.entry(0, "X", "", ex, 0), 0, all, 0, 13);
            Kit.tape(b, all);
            b.load(FCB);
            Kit.due("close EX " + ex, file(b, 16), which);
            Kit.due("EX of the FCB stays", ex(b), ex);
            Kit.due("EX of the ENTRY", Kit.entryByte(b, 0, which, 12), which * 31);
            Kit.due("byte 9", Kit.entryByte(b, 0, which, 9), which == 0 ? 0xA0 : 0x20);
            Kit.due("byte 13", Kit.entryByte(b, 0, which, 13), 0);
            Kit.due("byte 14", Kit.entryByte(b, 0, which, 14), 0);
            Kit.due("RC", Kit.entryByte(b, 0, which, 15), ex + 1 & 255);
            Kit.due("the last BLOCK", Kit.entryByte(b, 0, which, 31), ex + 1 & 255);
            Kit.due("the next ENTRY", Kit.entryByte(b, 0, which + 1, 0), which == 0 ? 0 : 0xE5);
        }
        fcb(b, "X", 1, 0, 0, 0, 0);
        Kit.due("no EXTENT 1", file(b, 16), 255);
    }

    private static void closeFirstOfTwo() {
        MonitorBoard b = board(Kit.entry(0, "X", "", 0, 1, 5), Kit.entry(0, "X", "", 0, 1, 5));
        fcb(b, "X", 0, 2, 6, 0, 0);
        Kit.due("the first", file(b, 16), 0);
        Kit.due("RC", Kit.entryByte(b, 0, 0, 15), 2);
        Kit.due("the second stays", Kit.entryByte(b, 0, 1, 15), 1);
    }

    /** 22: EX modulo 32, others 0; the name's highest bits go; CR and R stay. */
    private static void makeByExtent() {
        int[] extents = {0, 31, 32, 255};
        MonitorBoard b = board();
        for (int i = 0; i < 4; i++) {
            fcb(b, "\u00d8", extents[i], 9, 9, 8, 7);
            Kit.put(b, FCB + 9, 0xD9);
            Kit.due("make EX " + extents[i], file(b, 22), i);
            Kit.due("EX", ex(b), extents[i] % 32);
            Kit.due("RC", rc(b), 0);
            Kit.due("BLOCK", block(b, 0), 0);
            Kit.due("CR", cr(b), 8);
            Kit.due("R", b.memory(FCB + 33), 7);
            Kit.due("the FCB's name stays", b.memory(FCB + 1), 0xD8);
            Kit.due("the USER", Kit.entryByte(b, 0, i, 0), 0);
            Kit.due("the name", Kit.entryByte(b, 0, i, 1), 'X');
            Kit.due("the type", Kit.entryByte(b, 0, i, 9), 'Y');
            Kit.due("its EX", Kit.entryByte(b, 0, i, 12), extents[i] % 32);
            Kit.due("its last BLOCK", Kit.entryByte(b, 0, i, 31), 0);
        }
        Kit.due("the next one is free", Kit.entryByte(b, 0, 4, 0), 0xE5);
    }

    /** 22: 255 if none is free, and nothing changes; then the one that becomes free. */
    private static void makeInFullDirectory() {
        MonitorBoard b = fullDirectory();
        fcb(b, "MORE", 40, 9, 9, 9, 9);
        String before = shown(b);
        Kit.due("none is free", file(b, 22), 255);
        Kit.due("the FCB stays", shown(b), before);
        b.disk(0, 2, 13, 64, 0xE5);
        Kit.due("the one that is", file(b, 22), 2);
        Kit.due("its name", Kit.entryByte(b, 0, 10, 1), 'M');
        Kit.due("none again", file(b, 22), 255);
        fcb(b, "F63", 0, 0, 0, 0, 0);
        Kit.due("the last ENTRY", file(b, 15), 3);
        Kit.due("deleted", file(b, 19), 0);
        Kit.due("made again", file(b, 22), 3);
    }

    /** A 0 .. 3: the number of the ENTRY modulo 4. */
    private static void numbersOfEntries() {
        MonitorBoard b = fullDirectory();
        for (int e : new int[] {0, 3, 4, 7, 51, 52, 62, 63}) {
            fcb(b, "F" + e, 0, 0, 0, 0, 0);
            Kit.due("open F" + e, file(b, 15), e % 4);
            Kit.due("close F" + e, file(b, 16), e % 4);
            Kit.due("search F" + e, file(b, 17), e % 4);
            Kit.due("in its record", b.memory(DATA + e % 4 * 32 + 1), 'F');
            Kit.due("its last digit", b.memory(DATA + e % 4 * 32 + (e < 10 ? 2 : 3)), '0' + e % 10);
        }
    }

    /** 17: EX modulo 32; EX 63 every EXTENT. */
    private static void searchByExtent() {
        MonitorBoard b = board(Kit.entry(0, "X", "", 31, 0), Kit.entry(0, "X", "", 0, 0), Kit.entry(0, "X", "", 63, 0),
            Kit.entry(0, "X", "", 200, 0));
        int[][] due = {{0, 1, 255}, {32, 1, 255}, {31, 0, 255}, {95, 0, 255}, {255, 0, 255}, {191, 0, 255}, {62, 255, 255}, {63, 0, 1}};
        for (int[] d : due) {
            fcb(b, "X", d[0], 0, 0, 0, 0);
            Kit.due("17 of EX " + d[0], file(b, 17), d[1]);
            Kit.due("18 of EX " + d[0], file(b, 18), d[2]);
        }
        fcb(b, "?", 63, 0, 0, 0, 0);
        int[] all = {0, 1, 2, 3, 255};
        for (int i = 0; i < all.length; i++) {
            Kit.due("every EXTENT " + i, file(b, i == 0 ? 17 : 18), all[i]);
        }
    }

    /** A drive ?: all ENTRIES, also free ones and of other USERS, whatever name and EX are. */
    private static void searchOfEveryEntry() {
        MonitorBoard b = board(Kit.entry(5, "X", "", 31, 0), Kit.entry(0xE5, "Y", "", 0, 0));
        fcb(b, "NONE", 7, 0, 0, 0, 0);
        Kit.put(b, FCB, '?');
        Kit.due("ENTRY 0", file(b, 17), 0);
        Kit.due("of USER 5", b.memory(DATA), 5);
        for (int e = 1; e < 9; e++) {
            Kit.due("ENTRY " + e, file(b, 18), e % 4);
        }
        Kit.due("a free one", b.memory(DATA), 0xE5);
        Kit.due("17 begins anew", file(b, 17), 0);
    }

    /** 18: behind the last of 64 it is 255, and 255 again. */
    private static void searchBehindTheLast() {
        MonitorBoard b = fullDirectory();
        fcb(b, "F63", 0, 0, 0, 0, 0);
        Kit.due("the last", file(b, 17), 3);
        Kit.put(b, DATA, 1, 2, 3);
        Kit.due("none behind", file(b, 18), 255);
        Kit.due("none behind", file(b, 18), 255);
        Kit.due("the data stay", Kit.memory(b, DATA, 3), "\1\2\3");
        fcb(b, "NONE", 0, 0, 0, 0, 0);
        Kit.due("none", file(b, 17), 255);
        Kit.due("the data stay", Kit.memory(b, DATA, 3), "\1\2\3");
        fcb(b, "F0", 0, 0, 0, 0, 0);
        Kit.due("18 behind a 255 of 17", file(b, 18), 255);
        Kit.due("17 of the first", file(b, 17), 0);
        fcb(b, "F??", 0, 0, 0, 0, 0);
        Kit.due("18 as 17 had it, not as the FCB is now", file(b, 18), 255);
        MonitorBoard c = fullDirectory();
        Kit.fcb(c, FCB, 0, "F??", "");
        Kit.program(c, " LXI SP,4000H\n LXI D,3000H\n MVI C,17\nL: CALL 5\n INR A\n JZ E\n LXI H,2000H\n INR M\n MVI C,18\n JMP L\nE: HLT\n");
        c.jump(256);
        Kit.due("ends", c.run(200000), 2);
        Kit.due("64 of them", c.memory(0x2000), 64);
    }

    /** 18: none since a boot: 255. */
    private static void searchSinceBoot() {
        for (int way = 0; way < 3; way++) {
            MonitorBoard b = board(Kit.entry(0, "X", "", 0, 0), Kit.entry(0, "X", "", 0, 0), Kit.entry(0, "X", "", 0, 0));
            fcb(b, "X", 0, 0, 0, 0, 0);
            Kit.due("none at first", file(b, 18), 255);
            Kit.due("17", file(b, 17), 0);
            Kit.due("18", file(b, 18), 1);
            if (way == 0) {
                Kit.call(b, 0, 0);
            } else if (way == 1) {
                b.boot();
            } else {
                Kit.boots(b, 14, 7);
            }
            fcb(b, "X", 0, 0, 0, 0, 0);
            Kit.due("none since a boot", file(b, 18), 255);
            Kit.due("17 again", file(b, 17), 0);
        }
    }

    /** 18: with the drive that 17 had, which it LOGS in, also behind a 255. */
    private static void searchKeepsItsDrive() {
        MonitorBoard b = board(Kit.entry(0, "X", "", 0, 0));
        Kit.entries(b, 1, 0, Kit.entry(0, "X", "", 0, 0), Kit.entry(0, "X", "", 0, 0));
        Kit.result(b, 14, 1);
        Kit.result(b, 26, DATA);
        fcb(b, "X", 0, 0, 0, 0, 0);
        Kit.due("17 at B", file(b, 17), 0);
        Kit.result(b, 14, 0);
        Kit.result(b, 37, 3);
        Kit.due("18 at B", file(b, 18), 1);
        Kit.due("B is LOGGED in", Kit.result(b, 24, 0), 2);
        Kit.due("18", file(b, 18), 255);
        Kit.result(b, 37, 3);
        Kit.due("18 behind a 255", file(b, 18), 255);
        Kit.due("B is LOGGED in", Kit.result(b, 24, 0), 2);
        Kit.call(b, 0, 0);
        Kit.due("18 since a boot goes to none", file(b, 18), 255);
        Kit.due("A alone", Kit.result(b, 24, 0), 1);
    }

    /** 19: all ENTRIES with a name like it, whatever EX is; their BLOCKS are not in USE, but 0 and 1. */
    private static void deleteAll() {
        MonitorBoard b = board(Kit.entry(0, "AB", "", 0, 0, 1, 2, 242), Kit.entry(0, "AC", "", 31, 0, 243, 255, 0, 3),
            Kit.entry(1, "AD", "", 0, 0, 4), Kit.entry(0, "AE", "X", 99, 0, 5));
        Kit.entries(b, 0, 15, Kit.entry(0, "BA", "", 0, 0, 6), Kit.entry(0xE5, "AF", "", 0, 0, 7), Kit.entry(0, "A", "", 0, 0, 8),
            Kit.entry(0, "AG", "", 200, 0, 9));
        fcb(b, "A?", 17, 0, 0, 0, 0);
        String before = shown(b);
        Kit.due("19", file(b, 19), 0);
        Kit.due("the FCB stays", shown(b), before);
        int[][] due = {{0, 0xE5}, {1, 0xE5}, {2, 1}, {3, 0}, {60, 0}, {61, 0xE5}, {62, 0xE5}, {63, 0xE5}};
        for (int[] d : due) {
            Kit.due("ENTRY " + d[0], Kit.entryByte(b, 0, d[0], 0), d[1]);
        }
        Kit.due("only byte 0", Kit.entryByte(b, 0, 0, 1), 'A');
        Kit.result(b, 27, 0);
        Kit.due("0, 1, 4, 5, 6", b.memory(61472), 0xC0 + 0x0E);
        Kit.due("not 8, 9", b.memory(61473), 0);
        Kit.due("not 242", b.memory(61472 + 30), 0);
    }

    private static void deleteNone() {
        MonitorBoard b = board(Kit.entry(1, "X", "", 0, 0, 4));
        fcb(b, "???????", 0, 0, 0, 0, 0);
        Kit.due("none of this USER", file(b, 19), 255);
        Kit.put(b, FCB + 1, "???????????");
        Kit.due("none at all", file(b, 19), 255);
        Kit.due("it stays", Kit.entryByte(b, 0, 0, 0), 1);
    }

    /** 23: all ENTRIES with the name; no ?; the new one's highest bits go. */
    private static void renameAll() {
        MonitorBoard b = board(Kit.entry(0, "O", "", 0, 1, 4), Kit.entry(0, "O", "", 31, 2, 5), Kit.entry(2, "O", "", 0, 3, 6),
            Kit.entry(0, "O", "\u0020\u00a0", 99, 3, 6));
        fcb(b, "\u00cf", 17, 0, 0, 0, 0);
        Kit.put(b, FCB + 16, 1);
        Kit.put(b, FCB + 17, "\u00ce\u00c5W     T\u00d9P\u0055");
        String before = shown(b);
        Kit.due("23", file(b, 23), 0);
        Kit.due("the FCB stays", shown(b), before);
        for (int e : new int[] {0, 1, 3}) {
            Kit.due("N", Kit.entryByte(b, 0, e, 1), 'N');
            Kit.due("E", Kit.entryByte(b, 0, e, 2), 'E');
            Kit.due("Y", Kit.entryByte(b, 0, e, 10), 'Y');
            Kit.due("P", Kit.entryByte(b, 0, e, 11), 'P');
        }
        Kit.due("EX stays", Kit.entryByte(b, 0, 3, 12), 99);
        Kit.due("another USER's stays", Kit.entryByte(b, 0, 2, 1), 'O');
        Kit.due("no second time", file(b, 23), 255);
        Kit.fcb(b, FCB, 0, "NEW", "TYP");
        Kit.put(b, FCB + 17, "NEW     TYP");
        Kit.due("to its own name", file(b, 23), 0);
    }

    /** 30: all ENTRIES with the name get the FCB's, with its highest bits. */
    private static void attributesAll() {
        MonitorBoard b = board(Kit.entry(0, "O", "", 0, 1, 4), Kit.entry(0, "O", "\u00a0", 31, 2, 5), Kit.entry(2, "O", "", 0, 3, 6));
        fcb(b, "\u00cf", 17, 0, 0, 0, 0);
        Kit.put(b, FCB + 10, 0xA0);
        Kit.due("30", file(b, 30), 0);
        for (int e = 0; e < 2; e++) {
            Kit.due("1", Kit.entryByte(b, 0, e, 1), 0xCF);
            Kit.due("9", Kit.entryByte(b, 0, e, 9), 0x20);
            Kit.due("10", Kit.entryByte(b, 0, e, 10), 0xA0);
            Kit.due("EX", Kit.entryByte(b, 0, e, 12), 31 * e);
        }
        Kit.due("another USER's", Kit.entryByte(b, 0, 2, 1), 'O');
        fcb(b, "?", 0, 0, 0, 0, 0);
        Kit.due("no ?", file(b, 30), 255);
    }

    /** 20: CR above 128, or not below RC, or its BLOCK 0 or above 242: A 1. */
    private static void readEdges() {
        int[][] due = {{0, 0, 5, 1}, {0, 1, 5, 0}, {1, 1, 5, 1}, {7, 8, 5, 0}, {8, 9, 5, 1}, {0, 128, 0, 1}, {0, 128, 1, 0},
            {0, 128, 242, 0}, {0, 128, 243, 1}, {0, 128, 255, 1}, {0, 255, 5, 0}, {127, 128, 5, 1}, {129, 255, 5, 1}, {255, 255, 5, 1}};
        MonitorBoard b = board();
        for (int[] d : due) {
            fcb(b, "X", 77, d[1], d[2], d[0], 0);
            Kit.put(b, DATA, 1);
            Kit.due("read CR " + d[0] + " RC " + d[1] + " BLOCK " + d[2], file(b, 20), d[3]);
            Kit.due("CR", cr(b), d[0] + 1 - d[3]);
            Kit.due("the data", b.memory(DATA), d[3] == 0 ? 0xE5 : 1);
            Kit.due("EX is what it is", ex(b), 77);
            Kit.due("RC", rc(b), d[1]);
        }
        fcb(b, "X", 0, 128, 0, 127, 0);
        Kit.put(b, FCB + 31, 6);
        Kit.due("record 127 is of the last BLOCK", file(b, 20), 0);
        Kit.due("CR 128", cr(b), 128);
        Kit.due("then the next EXTENT", file(b, 20), 1);
        Kit.due("CR stays 128", cr(b), 128);
    }

    /** 20: CR 128: the next EXTENT is OPENED ahead; A 1 if there is none, and nothing changes. */
    private static void readNextExtent() {
        MonitorBoard b = board(Kit.entry(0, "X", "", 1, 1, 5), Kit.entry(0, "X", "", 31, 2, 6), Kit.entry(0, "X", "", 32, 3, 7));
        int[][] due = {{0, 0, 1}, {30, 0, 31}, {1, 1, 1}, {31, 1, 31}, {32, 1, 32}, {62, 1, 62}, {255, 1, 255}};
        for (int[] d : due) {
            fcb(b, "X", d[0], 128, 9, 128, 0);
            String before = shown(b);
            Kit.due("read behind EX " + d[0], file(b, 20), d[1]);
            Kit.due("EX", ex(b), d[2]);
            Kit.due("CR", cr(b), d[1] == 0 ? 1 : 128);
            if (d[1] == 1) {
                Kit.due("nothing changes", shown(b), before);
            }
        }
        Kit.due("nothing was CLOSED", Kit.entryByte(b, 0, 0, 15), 1);
    }

    /** 20: the next EXTENT has no record, or one without a BLOCK: A 1, the FCB has it. */
    private static void readEmptyNextExtent() {
        MonitorBoard b = board(Kit.entry(0, "X", "", 1, 0, 5), Kit.entry(0, "X", "", 3, 9, 0), Kit.entry(0, "X", "", 5, 9, 243));
        for (int ex = 0; ex < 6; ex += 2) {
            fcb(b, "X", ex, 128, 9, 128, 0);
            Kit.due("A 1", file(b, 20), 1);
            Kit.due("EX", ex(b), ex + 1);
            Kit.due("CR", cr(b), 0);
            Kit.due("RC", rc(b), ex == 0 ? 0 : 9);
        }
    }

    /** 21: CR above 128: A 1; a BLOCK above 242: A 2; RC becomes CR + 1 if it is not above it. */
    private static void writeEdges() {
        int[][] due = {{0, 0, 5, 0, 1}, {0, 1, 5, 0, 1}, {7, 3, 5, 0, 8}, {7, 8, 5, 0, 8}, {7, 7, 5, 0, 8}, {0, 128, 5, 0, 128},
            {0, 255, 5, 0, 255}, {0, 0, 1, 0, 1}, {0, 0, 242, 0, 1}, {0, 0, 243, 2, 0}, {0, 9, 255, 2, 9}, {129, 0, 5, 1, 0}, {255, 7, 5, 1, 7}};
        for (int[] d : due) {
            MonitorBoard b = board();
            fcb(b, "X", 77, d[1], d[2], d[0], 0);
            Kit.put(b, DATA, 0x42);
            Kit.due("write CR " + d[0] + " RC " + d[1] + " BLOCK " + d[2], file(b, 21), d[3]);
            Kit.due("CR", cr(b), d[0] + (d[3] == 0 ? 1 : 0));
            Kit.due("RC", rc(b), d[4]);
            Kit.due("EX is what it is", ex(b), 77);
            Kit.due("BLOCK", block(b, 0), d[2]);
            if (d[3] == 0) {
                Kit.due("it is there", Kit.blockByte(b, 0, d[2], d[0], 0), 0x42);
            }
        }
        MonitorBoard b = board();
        fcb(b, "X", 255, 0, 0, 127, 0);
        Kit.due("record 127", file(b, 21), 0);
        Kit.due("the last BLOCK is new", block(b, 15), 2);
        Kit.due("the first is none", block(b, 0), 0);
        Kit.due("RC", rc(b), 128);
        Kit.due("CR", cr(b), 128);
    }

    /** 21: CR 128: the EXTENT is CLOSED, the next one OPENED, or MADE. */
    private static void writeNextExtent() {
        MonitorBoard b = board(Kit.entry(0, "X", "", 0, 1, 5), Kit.entry(0, "X", "", 1, 9, 6), Kit.entry(0, "X", "", 30, 1, 7));
        fcb(b, "X", 0, 100, 50, 128, 0);
        Kit.due("OPENED", file(b, 21), 0);
        Kit.due("CLOSED", Kit.entryByte(b, 0, 0, 15), 100);
        Kit.due("its BLOCK", Kit.entryByte(b, 0, 0, 16), 50);
        Kit.due("EX", ex(b), 1);
        Kit.due("RC of that one", rc(b), 9);
        Kit.due("BLOCK of that one", block(b, 0), 6);
        Kit.due("CR", cr(b), 1);
        fcb(b, "X", 30, 128, 50, 128, 0);
        Kit.due("MADE", file(b, 21), 0);
        Kit.due("CLOSED", Kit.entryByte(b, 0, 2, 15), 128);
        Kit.due("in the first free one", Kit.entryByte(b, 0, 3, 12), 31);
        Kit.due("EX", ex(b), 31);
        Kit.due("RC", rc(b), 1);
        Kit.due("the new BLOCK", block(b, 0), 2);
        fcb(b, "NONE", 4, 128, 50, 128, 0);
        Kit.due("no ENTRY to be CLOSED", file(b, 21), 0);
        Kit.due("MADE", Kit.entryByte(b, 0, 4, 12), 5);
    }

    /** 21: A 1 if it can't be MADE, or EX would be above 31. */
    private static void writeNextExtentRefused() {
        MonitorBoard b = fullDirectory();
        fcb(b, "F7", 0, 88, 50, 128, 0);
        String before = shown(b);
        Kit.due("no ENTRY is free", file(b, 21), 1);
        Kit.due("the FCB stays", shown(b), before);
        Kit.due("CLOSED all the same", Kit.entryByte(b, 0, 7, 15), 88);
        for (int ex : new int[] {31, 32, 63, 254, 255}) {
            MonitorBoard c = board(Kit.entry(0, "X", "", 32, 1, 9), Kit.entry(0, "X", "", 0, 1, 9));
            fcb(c, "X", ex, 88, 50, 128, 0);
            before = shown(c);
            Kit.due("behind EX " + ex, file(c, 21), 1);
            Kit.due("the FCB stays", shown(c), before);
            Kit.due("nothing is MADE", Kit.entryByte(c, 0, 2, 0), 0xE5);
            Kit.due("CLOSED, modulo 32", Kit.entryByte(c, 0, 1, 15), ex % 32 == 0 ? 88 : 1);
        }
    }

    /** A new one is the least that is not in USE: the last one, BLOCK 242. */
    private static void writeLastBlock() {
        MonitorBoard b = fullDisk(1);
        fcb(b, "X", 0, 0, 0, 7, 0);
        Kit.put(b, DATA, 0x43);
        Kit.due("one is left", file(b, 21), 0);
        Kit.due("242", block(b, 0), 242);
        Kit.due("its last record", Kit.blockByte(b, 0, 242, 7, 0), 0x43);
        Kit.due("none is left", file(b, 21), 2);
        Kit.due("CR stays", cr(b), 8);
        Kit.due("RC stays", rc(b), 8);
        Kit.due("no BLOCK", block(b, 1), 0);
        Kit.put(b, FCB + 32, 0);
        Kit.due("where a BLOCK is it goes on", file(b, 21), 0);
    }

    /** None: A 2, in a new EXTENT, too. */
    private static void writeFullDisk() {
        MonitorBoard b = fullDisk(0);
        fcb(b, "X", 0, 128, 9, 128, 0);
        Kit.due("21", file(b, 21), 2);
        Kit.due("the next EXTENT is MADE", Kit.entryByte(b, 0, 16, 12), 1);
        Kit.due("EX", ex(b), 1);
        Kit.due("CR", cr(b), 0);
        Kit.due("RC", rc(b), 0);
        Kit.due("no BLOCK", block(b, 0), 0);
        Kit.put(b, FCB, 2);
        Kit.due("B has room", file(b, 21), 0);
        Kit.due("its first", block(b, 0), 2);
    }

    /** 33, 34, 40: R 0 .. 4095; others: A 6, and the FCB stays. */
    private static void placeBeyond() {
        MonitorBoard b = board();
        for (int r : new int[] {4096, 4097, 8191, 32768, 65535, 65536, 0x100FFF, 0xFFFFFF}) {
            fcb(b, "X", 0, 1, 5, 77, r);
            String before = shown(b);
            for (int number : new int[] {33, 34, 40}) {
                Kit.due("call " + number + " at " + r, file(b, number), 6);
            }
            Kit.due("the FCB stays", shown(b), before);
        }
        Kit.due("nothing is MADE", Kit.entryByte(b, 0, 0, 0), 0xE5);
    }

    /** EX and CR become R / 128 and R mod 128. */
    private static void placeOfEachExtent() {
        int[][] due = {{0, 0, 0}, {127, 0, 127}, {128, 1, 0}, {255, 1, 127}, {3967, 30, 127}, {3968, 31, 0}, {4095, 31, 127}};
        for (int[] d : due) {
            MonitorBoard b = board(Kit.entry(0, "X", "", 31, 7, 60));
            fcb(b, "X", 31, 9, 60, 77, d[0]);
            Kit.put(b, DATA, 0x44);
            Kit.due("write at " + d[0], file(b, 34), 0);
            Kit.due("EX", ex(b), d[1]);
            Kit.due("CR", cr(b), d[2]);
            Kit.due("the old one is CLOSED if EX was another", Kit.entryByte(b, 0, 0, 15), d[1] == 31 ? 7 : 9);
            int rc = d[1] == 31 ? Math.max(9, d[2] + 1) : d[2] + 1;
            Kit.due("RC", rc(b), rc);
            Kit.put(b, DATA, 0);
            Kit.due("read at " + d[0], file(b, 33), 0);
            Kit.due("it", b.memory(DATA), 0x44);
            Kit.due("CR stays", cr(b), d[2]);
            Kit.due("21 from there", file(b, 21), 0);
            Kit.due("CR grows", cr(b), d[2] + 1);
        }
    }

    /** 33: A 4 without that EXTENT, A 1 without the record; EX and CR become, others stay. */
    private static void placeNotThere() {
        MonitorBoard b = board(Kit.entry(0, "X", "", 2, 6, 60));
        fcb(b, "X", 0, 9, 5, 77, 128 + 3);
        Kit.due("no EXTENT 1", file(b, 33), 4);
        Kit.due("EX", ex(b), 1);
        Kit.due("CR", cr(b), 3);
        Kit.due("RC stays", rc(b), 9);
        Kit.due("BLOCK stays", block(b, 0), 5);
        Kit.due("the same again: EX is that one now", file(b, 33), 0);
        fcb(b, "X", 0, 9, 5, 77, 256 + 6);
        Kit.due("not below RC", file(b, 33), 1);
        Kit.due("EX", ex(b), 2);
        Kit.due("CR", cr(b), 6);
        Kit.due("RC", rc(b), 6);
        Kit.put(b, FCB + 33, 5);
        Kit.due("below RC", file(b, 33), 0);
        fcb(b, "X", 32, 9, 5, 77, 0);
        Kit.due("EX 32 is another than 0", file(b, 33), 4);
        Kit.due("EX", ex(b), 0);
        fcb(b, "X", 0, 128, 0, 77, 0);
        Kit.due("no BLOCK", file(b, 33), 1);
        Kit.put(b, FCB + 16, 243);
        Kit.due("no such BLOCK", file(b, 33), 1);
    }

    /** The old EXTENT is CLOSED by 34 and 40, not by 33, nor where EX stays. */
    private static void placeCloses() {
        for (int number : new int[] {33, 34, 40}) {
            MonitorBoard b = board(Kit.entry(0, "X", "", 0, 1, 5), Kit.entry(0, "X", "", 1, 1, 6));
            fcb(b, "X", 0, 77, 7, 0, 0);
            Kit.due("call " + number, file(b, number), 0);
            Kit.due("EX stays", Kit.entryByte(b, 0, 0, 15), 1);
            fcb(b, "X", 0, 77, 7, 0, 128);
            Kit.due("call " + number, file(b, number), 0);
            Kit.due("EX was another", Kit.entryByte(b, 0, 0, 15), number == 33 ? 1 : 77);
            Kit.due("its BLOCK", Kit.entryByte(b, 0, 0, 16), number == 33 ? 5 : 7);
            Kit.due("that one is OPENED", block(b, 0), 6);
        }
    }

    /** 34, 40: A 5 if it can't be MADE; EX and CR become, the old one was CLOSED. */
    private static void placeInFullDirectory() {
        MonitorBoard b = fullDirectory();
        for (int number : new int[] {34, 40}) {
            fcb(b, "F9", 0, number, 5, 77, 4095);
            Kit.due("call " + number, file(b, number), 5);
            Kit.due("EX", ex(b), 31);
            Kit.due("CR", cr(b), 127);
            Kit.due("RC stays", rc(b), number);
            Kit.due("CLOSED", Kit.entryByte(b, 0, 9, 15), number);
        }
        fcb(b, "F9", 0, 1, 5, 77, 5);
        Kit.due("none has to be MADE", file(b, 34), 0);
        Kit.due("RC", rc(b), 6);
        fcb(b, "F9", 64, 2, 5, 77, 5);
        Kit.due("EX 64 is another; that one is OPENED", file(b, 34), 0);
        Kit.due("behind the CLOSING of 64 modulo 32", Kit.entryByte(b, 0, 9, 15), 2);
    }

    /** 34, 40: A 2 without a new BLOCK, or with one above 242. */
    private static void placeOnFullDisk() {
        MonitorBoard b = fullDisk(0);
        for (int number : new int[] {34, 40}) {
            fcb(b, "X", 0, 0, 0, 77, 9);
            Kit.due("call " + number, file(b, number), 2);
            Kit.due("EX", ex(b), 0);
            Kit.due("CR", cr(b), 9);
            Kit.due("RC", rc(b), 0);
            Kit.put(b, FCB + 17, 243);
            Kit.due("no such BLOCK", file(b, number), 2);
            Kit.put(b, FCB + 17, 242);
            Kit.due("a BLOCK", file(b, number), 0);
            Kit.due("RC", rc(b), 10);
        }
    }

    /** 40: a new BLOCK is filled with 0s ahead, an old one is not. */
    private static void placeFilled() {
        MonitorBoard b = board();
        for (int r = 0; r < 128; r += 127) {
            fcb(b, "X", 0, 0, 0, 77, r);
            Kit.put(b, DATA, 0x45);
            Kit.due("40 at " + r, file(b, 40), 0);
            int block = r == 0 ? 2 : 3;
            Kit.due("the new BLOCK", block(b, r / 8), block);
            for (int k = 0; k < 8; k++) {
                Kit.due("record " + k, Kit.blockByte(b, 0, block, k, 0), k == r % 8 ? 0x45 : 0);
                Kit.due("its last byte", Kit.blockByte(b, 0, block, k, 127), 0);
            }
        }
        Kit.due("the BLOCK ahead", Kit.blockByte(b, 0, 1, 7, 127), 0xE5);
        Kit.due("the BLOCK behind", Kit.blockByte(b, 0, 4, 0, 0), 0xE5);
        fcb(b, "X", 0, 0, 9, 77, 3);
        Kit.due("40", file(b, 40), 0);
        Kit.due("an old BLOCK is not filled", Kit.blockByte(b, 0, 9, 2, 0), 0xE5);
        fcb(b, "X", 0, 0, 0, 77, 3);
        Kit.due("34", file(b, 34), 0);
        Kit.due("34 fills none", Kit.blockByte(b, 0, 4, 2, 0), 0xE5);
    }

    /** 35: the greatest EX * 128 + RC, 0 without any. */
    private static void sizes() {
        MonitorBoard b = board(Kit.entry(0, "X", "", 1, 0), Kit.entry(0, "X", "", 0, 128), Kit.entry(1, "X", "", 9, 9),
            Kit.entry(0, "Y", "", 31, 128));
        Kit.entries(b, 0, 15, Kit.entry(0, "Z", "", 255, 255), Kit.entry(0, "W", "", 0, 0), Kit.entry(0xE5, "X", "", 31, 1),
            Kit.entry(0, "Z", "", 254, 0));
        Object[][] due = {{"X", 128}, {"Y", 4096}, {"Z", 32895}, {"W", 0}, {"NONE", 0}, {"?", 0}};
        for (Object[] d : due) {
            fcb(b, (String) d[0], 5, 6, 7, 8, 0xABCDEF);
            Kit.due("35 of " + d[0], file(b, 35), 0);
            Kit.due("R", Kit.word(b, FCB + 33), (Integer) d[1]);
            Kit.due("its highest byte", b.memory(FCB + 35), 0);
            Kit.due("EX stays", ex(b), 5);
            Kit.due("CR stays", cr(b), 8);
        }
    }

    /** 36: R becomes EX * 128 + CR; it goes to no drive. */
    private static void placeTold() {
        MonitorBoard b = board();
        int[][] due = {{0, 0, 0}, {0, 255, 255}, {31, 127, 4095}, {31, 128, 4096}, {32, 0, 4096}, {255, 255, 32895}};
        for (int[] d : due) {
            fcb(b, "X", d[0], 6, 7, d[1], 0xABCDEF);
            Kit.put(b, FCB, 200);
            Kit.due("36", file(b, 36), 0);
            Kit.due("R", Kit.word(b, FCB + 33), d[2]);
            Kit.due("its highest byte", b.memory(FCB + 35), 0);
        }
    }

    /** A drive other than 0, 1, 2: SELECT; it is a warm boot, the FCB stays. */
    private static void selectErrors() {
        for (int number : WITH_FCB) {
            MonitorBoard b = board(Kit.entry(0, "X", "", 0, 1, 5));
            for (int drive : new int[] {3, 255}) {
                Kit.fcb(b, FCB, drive, "X", "");
                String before = shown(b);
                String letter = drive == 3 ? "C" : "?";
                Kit.due("call " + number, Kit.boots(b, number, FCB), "\r\nBdos Err On " + letter + ": Select\r\nA>");
                Kit.due("the FCB stays", shown(b), before);
                Kit.due("data at 128", b.register(12), 128);
            }
            Kit.fcb(b, FCB, '?', "X", "");
            if (number == 17) {
                Kit.due("? of 17", file(b, 17), 0);
            } else {
                Kit.due("? of " + number, Kit.boots(b, number, FCB), "\r\nBdos Err On \u007f: Select\r\nA>");
            }
            Kit.due("the ENTRY stays", Kit.entryByte(b, 0, 0, 15), 1);
        }
    }

    /** To write a drive that is only read: RO (16, if a byte would change). */
    private static void readOnlyDrive() {
        for (int number : WITH_FCB) {
            MonitorBoard b = board(Kit.entry(0, "X", "", 0, 1, 5));
            boolean writes = number == 19 || number == 21 || number == 22 || number == 23 || number == 30 || number == 34 || number == 40;
            Kit.result(b, 28, 0);
            fcb(b, "X", 0, 1, 5, 0, 0);
            if (writes) {
                Kit.due("call " + number, Kit.boots(b, number, FCB), "\r\nBdos Err On A: R/O\r\nA>");
                Kit.due("nothing is written", Kit.blockByte(b, 0, 5, 0, 0), 0xE5);
                Kit.due("nothing is deleted", Kit.entryByte(b, 0, 0, 0), 0);
                Kit.due("nothing is made", Kit.entryByte(b, 0, 1, 0), 0xE5);
            } else {
                Kit.due("call " + number, file(b, number), 0);
            }
            Kit.fcb(b, FCB, 2, "X", "");
            Kit.due("B may be written", file(b, 22), 0);
        }
        for (int k : new int[] {15, 16, 31}) {
            MonitorBoard b = board(Kit.entry(0, "X", "", 0, 1, 5));
            Kit.result(b, 28, 0);
            fcb(b, "X", 32, 1, 5, 0, 0);
            Kit.put(b, FCB + 13, 9, 9);
            Kit.due("13, 14 do not come", file(b, 16), 0);
            Kit.put(b, FCB + k, 77);
            Kit.due("byte " + k + " would change", Kit.boots(b, 16, FCB), "\r\nBdos Err On A: R/O\r\nA>");
            Kit.due("it does not", Kit.entryByte(b, 0, 0, k) == 77, false);
            fcb(b, "NONE", 0, 1, 5, 0, 0);
            Kit.due("no ENTRY, no error", file(b, 16), 255);
        }
    }

    /** A file by its first ENTRY (of 19 the first one with such a name) whose highest bit of 9 is set: FILE RO. */
    private static void readOnlyFile() {
        for (int number : WITH_FCB) {
            MonitorBoard b = board(Kit.entry(1, "X", "\u00a0", 0, 1, 5), Kit.entry(0, "X", "\u00a0", 3, 1, 5), Kit.entry(0, "X", "", 0, 1, 5),
                Kit.entry(0, "Y", "", 0, 1, 6));
            boolean writes = number == 19 || number == 21 || number == 23 || number == 34 || number == 40;
            fcb(b, "X", 0, 1, 5, 0, 0);
            if (writes) {
                Kit.due("call " + number, Kit.boots(b, number, FCB), "\r\nBdos Err On A: File R/O\r\nA>");
                Kit.due("nothing is written", Kit.blockByte(b, 0, 5, 0, 0), 0xE5);
                Kit.due("nothing is deleted", Kit.entryByte(b, 0, 2, 0), 0);
            } else {
                int answer = file(b, number);
                Kit.due("call " + number, answer == 0 || answer == 2, true);
            }
        }
        MonitorBoard b = board(Kit.entry(0, "X", "", 3, 1, 5), Kit.entry(0, "X", "\u00a0", 0, 1, 5), Kit.entry(0, "Y", "\u00a0", 0, 1, 6));
        fcb(b, "X", 0, 1, 5, 0, 0);
        Kit.due("by its first ENTRY alone", file(b, 21), 0);
        fcb(b, "?", 0, 1, 5, 0, 0);
        Kit.due("of 19 by the first alone", file(b, 19), 0);
        Kit.due("all are free", Kit.entryByte(b, 0, 2, 0), 0xE5);
        MonitorBoard c = board(Kit.entry(0, "X", "\u00a0", 0, 1, 5));
        Kit.result(c, 28, 0);
        fcb(c, "X", 0, 1, 5, 0, 0);
        Kit.due("RO ahead of FILE RO", Kit.boots(c, 19, FCB), "\r\nBdos Err On A: R/O\r\nA>");
    }

    /** A call by EE06 itself, as 5 may lie under the FCB. */
    private static int straight(MonitorBoard b, int number, int de) {
        Kit.put(b, 256, 0x31, 0, 0x40, 0x0E, number, 0x11, de & 255, de >> 8, 0xCD, 0x06, 0xEE, 0x76);
        b.jump(256);
        Kit.due("stops", b.run(10000), 2);
        return b.register(7);
    }

    /** Addresses are modulo 65536: an FCB over the end of MEMORY. */
    private static void fcbAround() {
        for (int at : new int[] {65535, 65526, 65520, 65504, 65501}) {
            MonitorBoard b = board();
            byte[] all = new byte[36];
            System.arraycopy(Kit.entry(0, "AROUND", "TYP", 0, 0), 0, all, 0, 32);
            Kit.tape(b, all);
            b.load(at);
            Kit.put(b, DATA, 0x46);
            Kit.due("make", straight(b, 22, at), 0);
            Kit.due("write", straight(b, 21, at), 0);
            Kit.due("RC", b.memory(at + 15 & 65535), 1);
            Kit.due("BLOCK", b.memory(at + 16 & 65535), 2);
            Kit.due("CR", b.memory(at + 32 & 65535), 1);
            Kit.due("close", straight(b, 16, at), 0);
            Kit.due("its name", Kit.entryByte(b, 0, 0, 6), 'D');
            Kit.due("its RC", Kit.entryByte(b, 0, 0, 15), 1);
            Kit.due("place", straight(b, 36, at), 0);
            Kit.due("R", b.memory(at + 33 & 65535), 1);
            Kit.due("read", straight(b, 33, at), 1);
        }
    }

    /** Data over the end of MEMORY. */
    private static void dataAround() {
        MonitorBoard b = board();
        fcb(b, "X", 0, 0, 0, 0, 0);
        Kit.put(b, 65500, 0x47);
        Kit.put(b, 65535, 0x48, 0x49);
        Kit.put(b, 91, 0x4A, 0x4B);
        straight(b, 26, 65500);
        Kit.due("write", straight(b, 21, FCB), 0);
        Kit.due("the first", Kit.blockByte(b, 0, 2, 0, 0), 0x47);
        Kit.due("at 65535", Kit.blockByte(b, 0, 2, 0, 35), 0x48);
        Kit.due("at 0", Kit.blockByte(b, 0, 2, 0, 36), 0x49);
        Kit.due("the last", Kit.blockByte(b, 0, 2, 0, 127), 0x4A);
        Kit.put(b, 0, 0);
        Kit.put(b, 65535, 0);
        Kit.put(b, FCB + 32, 0);
        Kit.due("read", straight(b, 20, FCB), 0);
        Kit.due("at 65535", b.memory(65535), 0x48);
        Kit.due("at 0", b.memory(0), 0x49);
        Kit.due("behind it", b.memory(92), 0x4B);
    }

    /** Calls go by ENTRIES of this USER: 31, the last one, too. */
    private static void otherUsers() {
        MonitorBoard b = board(Kit.entry(30, "X", "", 0, 1, 5), Kit.entry(31, "X", "", 0, 2, 6), Kit.entry(32, "X", "", 0, 3, 7));
        fcb(b, "X", 0, 0, 0, 0, 0);
        for (int number : new int[] {15, 16, 17, 19, 23, 30}) {
            Kit.due("USER 0 has none for " + number, file(b, number), 255);
        }
        Kit.result(b, 32, 31);
        Kit.due("USER 31", file(b, 15), 1);
        Kit.due("RC", rc(b), 2);
        Kit.due("19", file(b, 19), 0);
        Kit.due("its own alone", Kit.entryByte(b, 0, 0, 0), 30);
        Kit.due("its own alone", Kit.entryByte(b, 0, 2, 0), 32);
        Kit.due("made for USER 31", file(b, 22), 1);
        Kit.due("byte 0", Kit.entryByte(b, 0, 1, 0), 31);
    }
}
