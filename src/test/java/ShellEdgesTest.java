/** The boundary cases of Part V: boots, lines, words, and each command where its sentence names an edge. */
public final class ShellEdgesTest {
    public static void main(String[] args) {
        warmBoot();
        linesThatAreFull();
        linesThatBreak();
        emptyLines();
        capitals();
        signsOfNames();
        lengthsOfNames();
        stars();
        drivesOfWords();
        wordsMissing();
        directoryRows();
        directoryHides();
        eraseEdges();
        renameEdges();
        typeEdges();
        typeOfExtents();
        saveNumbers();
        saveRoom();
        userNumbers();
        dumpPlaces();
        statNumbers();
        copyEdges();
        copyRoom();
        hexAddresses();
        hexLines();
        hexRoom();
        programSizes();
        programWords();
        programTails();
        programRegisters();
        programNames();
        Kit.finish();
    }

    private static void says(MonitorBoard b, String keys, String due) {
        Kit.due("line " + Kit.shown(keys), Kit.line(b, keys), due + "\r\nA>");
    }

    private static void bad(MonitorBoard b, String keys) {
        int end = keys.length();
        for (int i = 0; i < keys.length(); i++) {
            if (keys.charAt(i) == ' ' || keys.charAt(i) == '=') {
                end = Math.min(end, i);
            }
        }
        says(b, keys, "\r\n" + keys.substring(0, end).toUpperCase() + "?");
    }

    /** Warm: the drive at hand stays, all others are to be LOGGED in anew, data are at 128. */
    private static void warmBoot() {
        MonitorBoard b = new MonitorBoard();
        Kit.line(b, "B:");
        Kit.line(b, "DIR A:");
        Kit.result(b, 26, 0x4000);
        Kit.put(b, 3, 0x81, 0x42);
        Kit.put(b, 0, 9, 9, 9);
        Kit.put(b, 8, 7);
        Kit.put(b, 256, 0xC3, 0x03, 0xEC);
        b.jump(256);
        b.console();
        Kit.due("boots", b.run(1000), 1);
        Kit.due("told", Kit.told(b), "\r\nB>");
        Kit.due("0 .. 8", Kit.memory(b, 0, 9), "\u00c3\u0003\u00ec\u0081\u0042\u00c3\u0006\u00ee\u0007");
        Kit.due("data", b.register(12), 128);
        Kit.due("B alone is LOGGED in", Kit.result(b, 24, 0), 2);
    }

    /** A line as call 10 with 127 signs: it ends behind the last one. */
    private static void linesThatAreFull() {
        MonitorBoard b = new MonitorBoard();
        b.console();
        String full = "X".repeat(127);
        Kit.type(b, full + "\r");
        Kit.due("waits", b.run(10), 1);
        Kit.due("127, then an empty line", Kit.told(b), full + "\r\r\n" + full + "?\r\nA>\r\r\nA>");
        MonitorBoard c = new MonitorBoard();
        c.console();
        String less = "Y".repeat(126);
        Kit.type(c, less);
        Kit.due("waits", c.run(10), 1);
        Kit.due("126 do not end it", Kit.told(c), less);
        Kit.type(c, "\r");
        c.run(10);
        Kit.due("13 does", Kit.told(c), "\r\r\n" + less + "?\r\nA>");
    }

    /** 3: warm boot, when there is no sign. */
    private static void linesThatBreak() {
        MonitorBoard b = new MonitorBoard();
        b.console();
        Kit.type(b, "\3\3X\b\3DI\3R\r");
        Kit.due("waits", b.run(1), 1);
        Kit.due("told", Kit.told(b), "\r\nA>\r\nA>X\b \b\r\nA>DI^CR\r\r\nDI\3R?\r\nA>");
        Kit.due("no states", b.states(), 0);
        Kit.due("waits at", b.register(9), 60419);
    }

    /** An empty line says nothing. */
    private static void emptyLines() {
        MonitorBoard b = new MonitorBoard();
        says(b, "", "");
        says(b, " ", "");
        says(b, " ".repeat(126), "");
        bad(b, "=");
        bad(b, "==");
        bad(b, "= A");
        Kit.type(b, "\r\n\n");
        b.console();
        b.run(1);
        Kit.due("three of them", Kit.told(b), "\r\r\nA>\r\r\nA>\r\r\nA>");
    }

    /** Letters become capitals, and nothing else does. */
    private static void capitals() {
        MonitorBoard b = new MonitorBoard();
        says(b, "az@[`{~", "\r\nAZ@[`{~?");
        says(b, "save 0 azAZ.z`{", "");
        says(b, "DIR", "\r\nA: AZAZ     Z`{");
        says(b, "user 0", "");
    }

    /** Signs: all above 32 but . : ; , = < > ? * [ ]. */
    private static void signsOfNames() {
        String not = ".:;,=<>?*[]";
        for (int sign = 0; sign < 127; sign++) {
            if (sign == 8 || sign == 10 || sign == 13 || sign == 32 || not.indexOf(sign) >= 0) {
                continue;
            }
            MonitorBoard b = new MonitorBoard();
            b.console();
            Kit.type(b, "SAVE 0 A" + (char) sign + "B\r");
            b.run(1);
            boolean taken = Kit.entryByte(b, 0, 0, 0) == 0;
            Kit.due("sign " + sign, taken, sign > 32);
            if (taken) {
                Kit.due("it", Kit.entryByte(b, 0, 0, 2), sign >= 'a' && sign <= 'z' ? sign - 32 : sign);
            }
        }
        for (char sign : not.toCharArray()) {
            MonitorBoard b = new MonitorBoard();
            Kit.type(b, "TYPE A" + sign + "B\r");
            b.console();
            b.run(1);
            boolean file = sign == '.' || sign == ':';
            Kit.due("sign " + sign, Kit.told(b).contains(file ? "No file" : "TYPE?"), true);
        }
    }

    /** A sign more than 8 or 3: BAD. */
    private static void lengthsOfNames() {
        MonitorBoard b = new MonitorBoard();
        says(b, "SAVE 0 12345678.123", "");
        bad(b, "SAVE 0 123456789");
        bad(b, "SAVE 0 123456789.1");
        bad(b, "SAVE 0 1.1234");
        bad(b, "SAVE 0 12345678.1234");
        says(b, "SAVE 0 .123", "");
        says(b, "SAVE 0 12345678.", "");
        says(b, "DIR", "\r\nA: 12345678 123 :          123 : 12345678    ");
        bad(b, "SAVE 0 1..1");
        bad(b, "SAVE 0 1.1.");
        says(b, "DIR A:12345678.123", "\r\nA: 12345678 123");
        bad(b, "DIR A:123456789");
    }

    /** * as many ? as are left of the name or type. */
    private static void stars() {
        MonitorBoard b = new MonitorBoard();
        for (String name : new String[] {"A", "AB.C", "ABCDEFGH.CDE", "B"}) {
            says(b, "SAVE 0 " + name, "");
        }
        String a = "A           ";
        String ab = "AB       C  ";
        String abc = "ABCDEFGH CDE";
        says(b, "DIR A*", "\r\nA: " + a);
        says(b, "DIR A*.*", "\r\nA: " + a + " : " + ab + " : " + abc);
        says(b, "DIR A*.C*", "\r\nA: " + ab + " : " + abc);
        says(b, "DIR ABCDEFGH*.CDE*", "\r\nA: " + abc);
        says(b, "DIR ABCDEFG*.CD*", "\r\nA: " + abc);
        says(b, "DIR ??.?", "\r\nA: " + a + " : " + ab + " : B           ");
        says(b, "DIR ????????.???", "\r\nA: " + a + " : " + ab + " : " + abc + " : B           ");
        says(b, "DIR *B.C", "\r\nDIR?");
        says(b, "DIR .*", "\r\nNo file");
        bad(b, "DIR ????????" + "?");
        bad(b, "DIR *?");
        bad(b, "DIR A.*C");
        for (String word : new String[] {"?", "A?", "1234567?", "A.?", "A.BC?", "*", ".??"}) {
            bad(b, "TYPE " + word);
            bad(b, "DUMP " + word);
        }
        says(b, "TYPE ABCDEFGH*.CDE*", "\r\n");
    }

    /** A letter before ':' other than A, B, a ':' elsewhere: the word is BAD. */
    private static void drivesOfWords() {
        MonitorBoard b = new MonitorBoard();
        for (String word : new String[] {"@:X", "C:X", "Z:X", "1:X", "::X", ":X", ":", "AA:X", "A::X", "A:X:", "A:X:Y", "A:X.:", "X.A:"}) {
            bad(b, "ERA " + word);
        }
        says(b, "ERA a:x", "\r\nNo file");
        says(b, "ERA B:X", "\r\nNo file");
        says(b, "ERA A:", "\r\nNo file");
        bad(b, "@:");
        bad(b, "C:");
        bad(b, "AB:");
        bad(b, "A:: ");
        bad(b, "A: B:");
        bad(b, "A:=");
        Kit.due("at hand", b.register(10), 0);
        Kit.due("B:", Kit.line(b, "B:"), "\r\nB>");
        Kit.due("A:", Kit.line(b, "A:"), "\r\nA>");
    }

    /** Words missing or too many (but for programs). */
    private static void wordsMissing() {
        for (String line : new String[] {"ERA", "REN", "REN A", "REN =", "REN A=", "REN =A", "REN A B", "REN A=B C", "REN C A=B", "REN A==B",
            "REN A=B=", "TYPE", "TYPE A B", "TYPE A=", "SAVE", "SAVE 1", "SAVE A", "SAVE 1 A B", "SAVE A 1", "SAVE 1=A", "USER", "USER 1 1",
            "USER =1", "DUMP", "DUMP A B", "STAT A B", "STAT =", "STAT A=B", "COPY", "COPY A", "COPY A=", "COPY =A", "COPY A B", "COPY A=B C",
            "HEXLOAD", "HEXLOAD A B", "HEXLOAD =A", "DIR A B", "DIR A=B", "DIR ="}) {
            MonitorBoard b = new MonitorBoard();
            says(b, "SAVE 0 A", "");
            bad(b, line);
            says(b, "DIR", "\r\nA: A           ");
        }
    }

    private static MonitorBoard withFiles(int count) {
        MonitorBoard b = new MonitorBoard();
        StringBuilder keys = new StringBuilder();
        for (int i = 0; i < count; i++) {
            keys.append("SAVE 0 F").append(i).append("\r");
        }
        Kit.type(b, keys.toString());
        b.run(1);
        return b;
    }

    /** The first, fifth, .. behind 13, 10, the drive's letter, the others behind ' : '. */
    private static void directoryRows() {
        for (int count : new int[] {0, 1, 3, 4, 5, 8, 9, 64}) {
            MonitorBoard b = withFiles(count);
            StringBuilder due = new StringBuilder();
            for (int i = 0; i < count; i++) {
                due.append(i % 4 == 0 ? "\r\nA: " : " : ").append(String.format("%-8s %-3s", "F" + i, ""));
            }
            b.console();
            Kit.type(b, "DIR\r");
            b.run(1);
            int n = b.console();
            String all = "DIR\r" + (count == 0 ? "\r\nNo file" : due.toString()) + "\r\nA>";
            Kit.due("of " + count, n, all.length());
            if (n < 450) {
                Kit.due("rows", Kit.out(b, n), all);
            }
        }
    }

    /** EXTENT 0, of the USER, not hidden; bits of the others do not matter, and are not told. */
    private static void directoryHides() {
        MonitorBoard b = new MonitorBoard();
        Kit.entries(b, 0, 0, Kit.entry(0, "HIDDEN", " \u00a0 ", 0, 1, 5), Kit.entry(0, "\u00d2EAD\u00cfNLY", "\u00d4Y\u00d0", 0, 1, 6),
            Kit.entry(0, "LATER", "", 1, 1, 7), Kit.entry(1, "OTHER", "", 0, 1, 8));
        says(b, "DIR", "\r\nA: READONLY TYP");
        says(b, "DIR HIDDEN", "\r\nNo file");
        says(b, "DIR LATER", "\r\nNo file");
        says(b, "STAT *.*", "\r\nHIDDEN       1 1k\r\nREADONLY TYP 1 1k");
        says(b, "STAT LATER", "\r\nNo file");
        Kit.due("another USER", Kit.line(b, "USER 1"), "\r\nA1>");
        Kit.due("has another", Kit.line(b, "DIR"), "\r\nA: OTHER       \r\nA1>");
    }

    /** ERA as call 19: none; FILE RO by the first one. */
    private static void eraseEdges() {
        MonitorBoard b = new MonitorBoard();
        Kit.entries(b, 0, 0, Kit.entry(0, "A", "", 0, 1, 5), Kit.entry(0, "A", "", 31, 1, 6), Kit.entry(0, "B", "\u00a0", 0, 1, 7),
            Kit.entry(1, "A", "", 0, 1, 8));
        says(b, "ERA C", "\r\nNo file");
        says(b, "STAT", "\r\nA: 237k");
        says(b, "ERA B", "\r\nBdos Err On A: File R/O");
        says(b, "ERA ?", "");
        says(b, "STAT", "\r\nA: 240k");
        Kit.due("B too", Kit.entryByte(b, 0, 2, 0), 0xE5);
        Kit.due("not of USER 1", Kit.entryByte(b, 0, 3, 0), 1);
        says(b, "ERA *.*", "\r\nNo file");
    }

    /** REN: the first one there (any ENTRY): File exists; the second one not: No file. */
    private static void renameEdges() {
        MonitorBoard b = new MonitorBoard();
        Kit.entries(b, 0, 0, Kit.entry(0, "LATER", "", 5, 1, 5), Kit.entry(0, "RO", "\u00a0", 0, 1, 6), Kit.entry(1, "OTHER", "", 0, 1, 7),
            Kit.entry(0, "X", "", 0, 1, 8));
        says(b, "REN LATER=X", "\r\nFile exists");
        says(b, "REN LATER=NONE", "\r\nFile exists");
        says(b, "REN NEW=OTHER", "\r\nNo file");
        says(b, "REN OTHER=X", "");
        says(b, "REN OTHER=OTHER", "\r\nFile exists");
        says(b, "REN NONE=NONE", "\r\nNo file");
        says(b, "REN NEW=LATER", "");
        Kit.due("any ENTRY", Kit.entryByte(b, 0, 0, 1), 'N');
        says(b, "REN Q=RO", "\r\nBdos Err On A: File R/O");
        says(b, "REN RO=OTHER", "\r\nFile exists");
        bad(b, "REN Q=?");
        bad(b, "REN *=OTHER");
        bad(b, "REN ABCDEFGH*=OTHER");
        bad(b, "REN Q=B:OTHER");
        says(b, "REN A:Q  =  OTHER", "");
        Kit.entries(b, 1, 0, Kit.entry(0, "Q", "", 0, 1, 5));
        says(b, "REN B:R=Q", "");
        Kit.due("the drive that the first one means", Kit.entryByte(b, 1, 0, 1), 'R');
        Kit.due("not the one at hand", Kit.line(b, "DIR Q"), "\r\nA: Q           \r\nA>");
    }

    /** TYPE up to a 26: at the first byte, at the last, or none. */
    private static void typeEdges() {
        MonitorBoard b = new MonitorBoard();
        int[] places = {0, 1, 127, 128, 255};
        for (int place : places) {
            byte[] text = new byte[256];
            java.util.Arrays.fill(text, (byte) 'x');
            text[place] = 26;
            Kit.tape(b, text);
            b.load(256);
            says(b, "SAVE 1 T", "");
            long before = b.states();
            b.console();
            Kit.type(b, "TYPE T\r");
            b.run(200000);
            Kit.due("told", b.console(), 7 + 2 + place + 4);
            Kit.due("states", b.states() - before, place);
        }
        Kit.put(b, 256 + 255, 'x');
        says(b, "SAVE 1 T", "");
        b.console();
        Kit.type(b, "TYPE T\r");
        b.run(200000);
        Kit.due("none: all", b.console(), 7 + 2 + 256 + 4);
        MonitorBoard c = new MonitorBoard();
        Kit.put(c, 256, 0x9A, 0, 255, 26);
        says(c, "SAVE 1 T", "");
        says(c, "TYPE T", "\r\n\u009a\0\u00ff");
    }

    /** Records of each EXTENT by RC; a BLOCK 0 or above 242 ends it; so does an EXTENT that is not there. */
    private static void typeOfExtents() {
        int[][] due = {{8, 5, 8, 5, 16}, {0, 5, 8, 5, 8}, {8, 5, 0, 5, 8}, {9, 5, 8, 5, 8}, {8, 0, 8, 5, 0}, {8, 243, 8, 5, 0}, {8, 242, 8, 243, 8},
            {255, 5, 8, 5, 8}, {1, 5, 1, 5, 2}};
        for (int[] d : due) {
            MonitorBoard b = new MonitorBoard();
            Kit.entries(b, 0, 0, Kit.entry(0, "T", "", 1, d[2], d[3]), Kit.entry(0, "T", "", 0, d[0], d[1]), Kit.entry(0, "T", "", 3, 8, 5));
            for (String command : new String[] {"TYPE", "DUMP"}) {
                long before = b.states();
                Kit.type(b, command + " T\r");
                Kit.due("waits", b.run(200000), 1);
                Kit.due(command + " of " + d[0] + " " + d[2], b.states() - before, d[4] * 128);
            }
            Kit.line(b, "COPY B:T=T");
            Kit.due("COPY", Kit.line(b, "STAT B:T"), "\r\nT            " + d[4] + " " + (d[4] + 7) / 8 + "k\r\nA>");
        }
        MonitorBoard b = new MonitorBoard();
        Kit.entries(b, 0, 0, Kit.entry(0, "T", "", 1, 8, 5));
        for (String line : new String[] {"TYPE T", "DUMP T", "COPY B:T=T"}) {
            says(b, line, "\r\nNo file");
        }
    }

    /** SAVE n: 0 .. 255. */
    private static void saveNumbers() {
        MonitorBoard b = new MonitorBoard();
        for (String n : new String[] {"256", "257", "-1", "+1", "1.", "0X1", "1H", "99999999999999999999", "4294967296", "A", "?", "/", ":", "1/", "1:", "0:", "2/5"}) {
            bad(b, "SAVE " + n + " X");
        }
        says(b, "DIR", "\r\nNo file");
        says(b, "SAVE 0000000000000000255 X", "");
        says(b, "STAT X", "\r\nX            510 64k");
        says(b, "SAVE 00 X", "");
        says(b, "STAT X", "\r\nX            0 0k");
        Kit.put(b, 65535, 0x5C);
        says(b, "SAVE 255 X", "");
        Kit.due("its last byte is that at 65535", Kit.blockByte(b, 0, 65, 5, 127), 0x5C);
        Kit.due("EXTENT 0", Kit.entryByte(b, 0, 0, 15), 128);
        Kit.due("EXTENT 3", Kit.entryByte(b, 0, 3, 15), 510 - 384);
        Kit.due("no EXTENT 4", Kit.entryByte(b, 0, 4, 0), 0xE5);
        says(b, "SAVE 64 X", "");
        says(b, "STAT X", "\r\nX            128 16k");
        Kit.due("128 records need no EXTENT 1", Kit.entryByte(b, 0, 1, 0), 0xE5);
        says(b, "SAVE 65 X", "");
        Kit.due("130 do", Kit.entryByte(b, 0, 1, 15), 2);
    }

    /** SAVE: no room for an ENTRY, or for a BLOCK. */
    private static void saveRoom() {
        MonitorBoard b = withFiles(64);
        says(b, "SAVE 0 MORE", "\r\nNo space");
        says(b, "SAVE 1 F63", "");
        says(b, "SAVE 65 F63", "\r\nNo space");
        says(b, "STAT F63", "\r\nF63          128 16k");
        says(b, "SAVE 0 B:MORE", "");
        MonitorBoard c = new MonitorBoard();
        for (int i = 0; i < 3; i++) {
            says(c, "SAVE 255 F" + i, "");
        }
        says(c, "SAVE 192 F3", "");
        says(c, "STAT", "\r\nA: 1k");
        says(c, "SAVE 4 G", "");
        says(c, "STAT", "\r\nA: 0k");
        says(c, "SAVE 0 H", "");
        says(c, "SAVE 1 H", "\r\nNo space");
        says(c, "SAVE 5 G", "\r\nNo space");
        says(c, "STAT G", "\r\nG            8 1k");
        says(c, "SAVE 4 G", "");
    }

    /** USER n, 0 .. 15. */
    private static void userNumbers() {
        MonitorBoard b = new MonitorBoard();
        for (String n : new String[] {"16", "31", "255", "-1", "1.", "99999999999", "A", "/", ":", "1/", "0:", "1:"}) {
            bad(b, "USER " + n);
        }
        Kit.due("15", Kit.line(b, "USER 15"), "\r\nA15>");
        Kit.due("register", b.register(11), 15);
        Kit.due("refused", Kit.line(b, "USER 16"), "\r\nUSER?\r\nA15>");
        Kit.due("10", Kit.line(b, "USER 0010"), "\r\nA10>");
        Kit.due("0", Kit.line(b, "USER 0"), "\r\nA>");
    }

    /** DUMP: places modulo 65536, sixteen bytes a row. */
    private static void dumpPlaces() {
        MonitorBoard b = new MonitorBoard();
        int[] blocks = new int[16];
        java.util.Arrays.fill(blocks, 5);
        byte[][] entries = new byte[4][];
        for (int i = 0; i < 4; i++) {
            entries[i] = Kit.entry(0, "D", "", i, 128, blocks);
        }
        Kit.entries(b, 0, 0, entries);
        Kit.entries(b, 0, 1, Kit.entry(0, "D", "", 4, 1, 5));
        b.console();
        long before = b.states();
        Kit.type(b, "DUMP D\r");
        Kit.due("513 records", b.run(200000), 1);
        Kit.due("states", b.states() - before, 513 * 128);
        int n = b.console();
        Kit.due("8000 at most", n, 8000);
        String last = "";
        for (int i = n - 4 - 9 * 54; i < n - 4 - 8 * 54 + 6; i++) {
            last += (char) b.out(i);
        }
        String row = " E5".repeat(16);
        Kit.due("FFF0, then 0000", last, "\r\nFFF0" + row + "\r\n0000");
        MonitorBoard c = new MonitorBoard();
        Kit.put(c, 256, 0x0A, 0xF0, 26, 255);
        says(c, "SAVE 1 E", "");
        String dump = Kit.line(c, "DUMP E");
        Kit.due("no end at 26", dump.substring(0, 54), "\r\n0000 0A F0 1A FF" + " 00".repeat(12));
        Kit.due("sixteen rows", dump.length(), 16 * 54 + 4);
    }

    /** STAT: of none, of all, and numbers of each length. */
    private static void statNumbers() {
        MonitorBoard b = new MonitorBoard();
        says(b, "STAT", "\r\nA: 241k");
        says(b, "STAT A:", "\r\nNo file");
        Kit.entries(b, 0, 0, Kit.entry(0, "A", "", 0, 9, 2, 2, 0, 243, 255, 1), Kit.entry(0, "B", "", 0, 10), Kit.entry(0, "C", "", 0, 100),
            Kit.entry(0, "D", "", 0, 128));
        Kit.entries(b, 0, 15, Kit.entry(0, "D", "", 31, 128, 3), Kit.entry(0, "E", "", 0, 0, 1), Kit.entry(0, "E", "", 255, 255, 4), Kit.entry(0, "A", "", 0, 5));
        says(b, "STAT *.*", "\r\nA            9 5k\r\nB            10 0k\r\nC            100 0k\r\nD            4096 1k\r\nE            32895 2k"
            + "\r\nA            9 5k");
        says(b, "STAT", "\r\nA: 238k");
        says(b, "STAT Z", "\r\nNo file");
        Kit.entries(b, 1, 0, Kit.entry(0, "?", "", 0, 1, 5), Kit.entry(0, "X", "", 0, 2, 6, 7));
        says(b, "STAT B:?", "\r\n?            1 1k\r\nX            2 2k");
        MonitorBoard c = new MonitorBoard();
        byte[] all = Kit.entry(0, "ALL", "", 1, 0, 9);
        byte[] last = Kit.entry(0, "ALL", "", 0, 0, 9);
        for (int record = 0; record < 16; record++) {
            Kit.entries(c, 0, record, all, all, all, record == 15 ? last : all);
        }
        says(c, "STAT ALL", "\r\nALL          128 64k");
    }

    /** COPY: the same drive, name and type: BAD; of nothing; over what is there. */
    private static void copyEdges() {
        MonitorBoard b = new MonitorBoard();
        says(b, "SAVE 0 NIL", "");
        says(b, "SAVE 65 BIG", "");
        bad(b, "COPY NIL=NIL");
        bad(b, "COPY A:NIL=NIL");
        bad(b, "COPY NIL=A:NIL");
        bad(b, "COPY NONE=NONE");
        says(b, "COPY X=NIL", "");
        says(b, "STAT X", "\r\nX            0 0k");
        says(b, "COPY X=BIG", "");
        says(b, "STAT X", "\r\nX            130 17k");
        says(b, "COPY X=NIL", "");
        says(b, "STAT X", "\r\nX            0 0k");
        says(b, "COPY B:BIG=BIG", "");
        says(b, "COPY A:BIG=B:BIG", "");
        says(b, "STAT BIG", "\r\nBIG          130 17k");
        says(b, "COPY BIG.A=BIG", "");
        says(b, "COPY BIG.BCD=BIG.A", "");
        says(b, "COPY BIG.BCE=BIG.BCD", "");
        says(b, "COPY PIG.BCE=BIG.BCE", "");
        says(b, "COPY X=NONE", "\r\nNo file");
        says(b, "STAT X", "\r\nX            0 0k");
        bad(b, "COPY X=?");
        bad(b, "COPY *=BIG");
        bad(b, "COPY 12345678*=BIG");
    }

    /** COPY: no room: what was written stays. */
    private static void copyRoom() {
        MonitorBoard b = withFiles(63);
        says(b, "SAVE 64 F0", "");
        says(b, "COPY ONE=F0", "");
        says(b, "COPY MORE=F0", "\r\nNo space");
        says(b, "SAVE 65 B:BIG", "");
        says(b, "COPY F1=B:BIG", "\r\nNo space");
        says(b, "STAT F1", "\r\nF1           128 16k");
        MonitorBoard c = new MonitorBoard();
        for (int i = 0; i < 3; i++) {
            says(c, "SAVE 255 F" + i, "");
        }
        says(c, "COPY X=F0", "\r\nNo space");
        says(c, "STAT X", "\r\nX            392 49k");
        says(c, "STAT", "\r\nA: 0k");
        says(c, "COPY F1=X", "");
        says(c, "STAT", "\r\nA: 15k");
    }

    private static MonitorBoard withHex(String text) {
        MonitorBoard b = new MonitorBoard();
        Kit.put(b, 256, text + "\u001a");
        Kit.line(b, "SAVE 5 H.HEX");
        Kit.put(b, 256, 0x99);
        return b;
    }

    private static String row(int address, int... bytes) {
        int sum = bytes.length + address / 256 + address % 256;
        StringBuilder text = new StringBuilder(String.format(":%02X%04X00", bytes.length, address));
        for (int value : bytes) {
            text.append(String.format("%02X", value));
            sum += value;
        }
        return text.append(String.format("%02X", -sum & 255)).toString();
    }

    private static void hex(String text, String records) {
        MonitorBoard b = withHex(text);
        says(b, "HEXLOAD H", "");
        says(b, "STAT H.COM", "\r\nH        COM " + records);
    }

    private static void badHex(String text) {
        MonitorBoard b = withHex(text);
        says(b, "HEXLOAD H", "\r\nBad hex");
        Kit.due("MEMORY stays", b.memory(256), 0x99);
        says(b, "STAT H.COM", "\r\nNo file");
    }

    private static final String END = "\r\n:00000001FF";

    /** HEXLOAD: addresses 256 .. 58367; as many records as go up to the greatest one told. */
    private static void hexAddresses() {
        hex(row(256, 1) + END, "1 1k");
        hex(row(383, 1) + END, "1 1k");
        hex(row(384, 1) + END, "2 1k");
        hex(row(383, 1, 2) + END, "2 1k");
        hex(row(1279, 1) + END, "8 1k");
        hex(row(1280, 1) + END, "9 2k");
        hex(row(58367, 1) + END, "454 57k");
        hex(row(58366, 1, 2) + END + "\r\n", "454 57k");
        hex(row(500, 1) + "\r\n" + row(256, 2) + END, "2 1k");
        hex(row(0) + END, "0 0k");
        hex(row(65535) + END, "0 0k");
        hex(row(58368) + END, "0 0k");
        hex(":00FFFF0101", "0 0k");
        badHex(row(255, 1) + END);
        badHex(row(0, 1) + END);
        badHex(row(255, 1, 2) + END);
        badHex(row(58368, 1) + END);
        badHex(row(58367, 1, 2) + END);
        badHex(row(65535, 1, 2) + END);
        badHex(row(256, 1) + "\r\n" + row(58368, 1) + END);
        MonitorBoard b = withHex(row(300, 7) + "\r\n" + row(300, 8) + END);
        Kit.put(b, 255, 0x98);
        Kit.put(b, 58367, 0x97, 0x96);
        says(b, "HEXLOAD H", "");
        Kit.due("the later one", b.memory(300), 8);
        Kit.due("others 0", b.memory(256), 0);
        Kit.due("the last other 0", b.memory(58367), 0);
        Kit.due("ahead", b.memory(255), 0x98);
        Kit.due("behind", b.memory(58368), 0x96);
    }

    /** HEXLOAD: lines of 0 and of 255 bytes; what can't go on; no such end. */
    private static void hexLines() {
        int[] many = new int[255];
        many[254] = 5;
        hex(row(256, many) + END, "2 1k");
        hex(":00000001FFanything", "0 0k");
        hex("\r\n:00000001FF", "0 0k");
        hex(row(256, 1) + row(257, 2) + ":00000001FF", "1 1k");
        badHex("");
        badHex(row(256, 1));
        badHex(row(256, 1) + "\r\n");
        badHex(row(256, 1) + "\r\n\r\n:00000001FF");
        badHex(row(256, 1) + "\n:00000001FF");
        badHex(row(256, 1) + "\r:00000001FF");
        badHex(" " + row(256, 1) + END);
        badHex(row(256, 1) + " " + END);
        badHex(row(256, 1).substring(0, 11) + END);
        badHex(row(256, 0xAB).toLowerCase() + END);
        badHex(":0101000001FE" + END);
        badHex(":0001000002FD");
        badHex(":01010001AA53");
        badHex(":01010000AA5" + "\u001a" + "4" + END);
        badHex(":00000001F");
        badHex(":00000001FE");
        badHex(":00000001FE01");
        badHex(":0000000" + "/1FF");
        badHex(":0000000" + ":1FF");
        badHex(":0000000" + "@1FF");
        badHex(":0000000" + "G1FF");
        MonitorBoard b = new MonitorBoard();
        says(b, "HEXLOAD H", "\r\nNo file");
        says(b, "SAVE 0 H.HEX", "");
        says(b, "HEXLOAD H", "\r\nBad hex");
        says(b, "HEXLOAD 12345678", "\r\nNo file");
        bad(b, "HEXLOAD H.H");
        bad(b, "HEXLOAD H.HEX");
        bad(b, "HEXLOAD ?");
        bad(b, "HEXLOAD *");
        says(b, "HEXLOAD B:H", "\r\nNo file");
    }

    /** HEXLOAD: no room. */
    private static void hexRoom() {
        MonitorBoard b = withFiles(63);
        Kit.put(b, 256, row(256, 1) + END);
        says(b, "SAVE 1 H.HEX", "");
        says(b, "HEXLOAD H", "\r\nNo space");
        says(b, "ERA F0", "");
        says(b, "HEXLOAD H", "");
        MonitorBoard c = new MonitorBoard();
        for (int i = 0; i < 3; i++) {
            says(c, "SAVE 255 F" + i, "");
        }
        Kit.put(c, 256, row(58367, 1) + END + "\u001a");
        says(c, "SAVE 1 H.HEX", "");
        says(c, "HEXLOAD H", "\r\nNo space");
        says(c, "STAT H.COM", "\r\nH        COM 384 48k");
        Kit.line(c, "USER 1");
        Kit.due("of the USER", Kit.line(c, "HEXLOAD H"), "\r\nNo file\r\nA1>");
    }

    /** Programs: at most 454 records; if there are more: Bad load, what came stays. */
    private static void programSizes() {
        int[] blocks = new int[16];
        java.util.Arrays.fill(blocks, 5);
        int[][] due = {{69, 1}, {70, 1}, {71, 0}, {128, 0}};
        for (int[] d : due) {
            MonitorBoard b = new MonitorBoard();
            byte[] code = new byte[128];
            code[0] = 0x76;
            Kit.sector(b, 0, 3, 1 + (6 * 14 + 1) % 26, code);
            Kit.entries(b, 0, 0, Kit.entry(0, "P", "COM", 0, 128, blocks), Kit.entry(0, "P", "COM", 1, 128, blocks),
                Kit.entry(0, "P", "COM", 2, 128, blocks), Kit.entry(0, "P", "COM", 3, d[0], blocks));
            Kit.put(b, 58367, 0x95, 0x96);
            Kit.put(b, 256, 0);
            b.console();
            Kit.type(b, "P\r");
            if (d[1] == 1) {
                Kit.due(384 + d[0] + " records", b.run(1000), 2);
                Kit.due("begins at 256", b.register(9), 257);
            } else {
                Kit.due(384 + d[0] + " records", b.run(1000), 1);
                Kit.due("told", Kit.told(b), "P\r\r\nBad load\r\nA>");
            }
            Kit.due("what came", b.memory(256), 0x76);
            Kit.due("its last byte", b.memory(58240), d[0] < 70 ? 0 : 0xE5);
            Kit.due("what is behind", b.memory(58368), 0x96);
        }
        MonitorBoard b = new MonitorBoard();
        Kit.entries(b, 0, 0, Kit.entry(0, "P", "COM", 0, 128, blocks), Kit.entry(0, "P", "COM", 1, 128, blocks),
            Kit.entry(0, "P", "COM", 2, 128, blocks), Kit.entry(0, "P", "COM", 3, 80, 5, 5, 5, 5, 5, 5, 5, 5, 0));
        Kit.type(b, "P\r");
        b.run(1);
        Kit.due("a BLOCK 0 ends it", b.register(9) != 60419, true);
    }

    private static void shows(String line, String first, String second) {
        MonitorBoard b = new MonitorBoard();
        Kit.put(b, 256, 0x76);
        Kit.line(b, "SAVE 1 P.COM");
        Kit.put(b, 91, "\u0091".repeat(34));
        Kit.type(b, line + "\r");
        Kit.due(line, b.run(1000), 2);
        Kit.due("what is ahead", b.memory(91), 0x91);
        Kit.due("what is behind", b.memory(124), 0x91);
        Kit.due("second word of " + line, Kit.memory(b, 92, 16), first + "\0\0\0\0");
        Kit.due("third word of " + line, Kit.memory(b, 108, 16), second + "\0\0\0\0");
    }

    /** The second and third words; S where nothing is; BAD ones as far as they go. */
    private static void programWords() {
        String none = "\0           ";
        shows("P", none, none);
        shows("P  ", none, none);
        shows("P =", none, none);
        shows("P A:", "\1           ", none);
        shows("P B:. A:.", "\2           ", "\1           ");
        shows("P 12345678.123 ????????.???", "\00012345678123", "\0???????????");
        shows("P 123456789.123 1.1234", "\00012345678   ", "\0001       123");
        shows("P * *.*", "\0????????   ", "\0???????????");
        shows("P A*B.C X.*Y", "\0A???????   ", "\0X       ???");
        shows("P A;B A:B:C", "\0A          ", "\1B          ");
        shows("P X Y Z", "\0X          ", "\0Y          ");
        shows("P X=Y", "\0X          ", "\0Y          ");
        shows("P=X=Y=Z", "\0X          ", "\0Y          ");
        shows("P .X Y.", "\0        X  ", "\0Y          ");
        shows("P A..B [", "\0A          ", none);
    }

    /** At 128 how many bytes there are behind the first word, these, 0. */
    private static void programTails() {
        for (int count : new int[] {0, 1, 125, 126}) {
            MonitorBoard b = new MonitorBoard();
            Kit.put(b, 256, 0x76);
            Kit.line(b, "SAVE 1 P.COM");
            Kit.put(b, 128, "\u0077".repeat(128));
            Kit.type(b, "p" + " x".repeat(63).substring(0, count) + "\r");
            Kit.due("stops", b.run(1000), 2);
            String tail = " X".repeat(63).substring(0, count);
            Kit.due("tail of " + count, Kit.memory(b, 128, count + 2), (char) count + tail + "\0");
            Kit.due("nothing more", b.memory(128 + count + 2), count == 126 ? 0x76 : 0x77);
            Kit.due("SP", b.register(8), 58366);
            Kit.due("0, 0", Kit.word(b, 58366), 0);
            Kit.due("data", b.register(12), 128);
        }
        MonitorBoard b = new MonitorBoard();
        Kit.put(b, 256, 0xC9);
        Kit.line(b, "SAVE 1 P.COM");
        Kit.due("a RET is a warm boot", Kit.line(b, "P"), "\r\nA>");
    }

    /** SP 58366; all other registers 0, whatever they were. */
    private static void programRegisters() {
        MonitorBoard b = new MonitorBoard();
        Kit.put(b, 256, 0x76);
        Kit.line(b, "SAVE 1 P.COM");
        Kit.put(b, 0x2000, 0x31, 0, 0x40, 0x01, 0x34, 0x12, 0x11, 0x78, 0x56, 0x21, 0xBC, 0x9A, 0xAF, 0x3D, 0x37, 0xC3, 0x03, 0xEC);
        b.jump(0x2000);
        Kit.due("a warm boot", b.run(1000), 1);
        Kit.due("leaves them", b.register(7), 255);
        Kit.type(b, "P\r");
        Kit.due("stops", b.run(1000), 2);
        int[] due = {0, 0, 0, 0, 0, 0, 2, 0, 58366, 257};
        for (int i = 0; i < due.length; i++) {
            Kit.due("register " + i, b.register(i), due[i]);
        }
    }

    /** Any other FILE word (no ?, no type, a name). */
    private static void programNames() {
        MonitorBoard b = new MonitorBoard();
        Kit.put(b, 256, 0xC9);
        for (String name : new String[] {"12345678.COM", "DIRX.COM", "DI.COM", "DIR.COM", "?.COM", ".COM", "HEXLOADX.COM"}) {
            says(b, "SAVE 1 " + name, "");
        }
        says(b, "12345678", "");
        says(b, "dirx", "");
        says(b, "di", "");
        says(b, "hexloadx", "");
        says(b, "A:DIR", "");
        says(b, "DIR.", "");
        bad(b, "123456789");
        bad(b, "?");
        bad(b, "*");
        bad(b, ".");
        bad(b, "A:.");
        bad(b, "DI.COM");
        bad(b, "DI.X");
        bad(b, "B:DI");
        bad(b, "NONE");
        bad(b, "NONE X Y Z");
    }
}
