/** Promises 4 to 6, 8, 12 as far as they are the command line's (Part V). */
public final class ShellTest {
    public static void main(String[] args) {
        lines();
        words();
        driveAndUser();
        directory();
        erase();
        rename();
        typeAndDump();
        save();
        status();
        copy();
        hexload();
        programs();
        load();
        namesOfPrograms();
        hexAgain();
        logsIn();
        fullDirectory();
        longFiles();
        space();
        allExtents();
        errors();
        Kit.finish();
    }

    private static void says(MonitorBoard b, String keys, String due) {
        Kit.due("line " + Kit.shown(keys), Kit.line(b, keys), due + "\r\nA>");
    }

    private static void bad(MonitorBoard b, String keys) {
        String word = keys.trim();
        int end = word.length();
        for (int i = 0; i < word.length(); i++) {
            if (word.charAt(i) == ' ' || word.charAt(i) == '=') {
                end = Math.min(end, i);
            }
        }
        says(b, keys, "\r\n" + word.substring(0, end).toUpperCase() + "?");
    }

    private static void lines() {
        MonitorBoard b = new MonitorBoard();
        says(b, "", "");
        says(b, "    ", "");
        says(b, "dir", "\r\nNo file");
        says(b, "   DIR   ", "\r\nNo file");
        bad(b, "x");
        bad(b, "=");
        bad(b, "=DIR");
        Kit.told(b);
        Kit.type(b, "D\u0001\u0008IX\u007fR\n");
        Kit.due("waits", b.run(100), 1);
        Kit.due("told", Kit.told(b), "D^A\b \bIX\b \bR\r\r\nNo file\r\nA>");
        Kit.type(b, "\u0003");
        b.run(100);
        Kit.due("3 is a warm boot", Kit.told(b), "\r\nA>");
        Kit.type(b, "\u0003DIR\r");
        b.run(100);
        Kit.due("and the next line", Kit.told(b), "\r\nA>DIR\r\r\nNo file\r\nA>");
        Kit.type(b, "\u0001\u0003\r");
        b.run(100);
        Kit.due("3 behind a sign", Kit.told(b), "^A^C\r\r\n\u0001\u0003?\r\nA>");
        Kit.type(b, "DI");
        Kit.due("waits", b.run(100), 1);
        Kit.type(b, "R\r");
        b.run(100);
        Kit.due("goes on", Kit.told(b), "DIR\r\r\nNo file\r\nA>");
        String full = "DIR" + " ".repeat(124);
        Kit.type(b, full + "DIR\r");
        b.run(100);
        Kit.due("127 signs", Kit.told(b), full + "\r\r\nNo file\r\nA>DIR\r\r\nNo file\r\nA>");
        Kit.type(b, "\u00c4\u00c9\u00d2\u008d");
        b.run(100);
        Kit.due("keys without 128", Kit.told(b), "DIR\r\r\nNo file\r\nA>");
    }

    private static void words() {
        MonitorBoard b = new MonitorBoard();
        for (String word : new String[] {"C:", "C:X", "A:B:C", ":X", "AB:X", "::", "ABCDEFGHI", "A.BCDE", "A.B.C",
            "A;", "A,", "A<B", "A>B", "A[B", "A]B", "A?*B", "X*Y", "ABCDEFGH?", "A.BCD?"}) {
            Kit.due("DIR " + word, Kit.line(b, "DIR " + word).startsWith("\r\nDIR?"), true);
        }
        for (String word : new String[] {"A:", "B:", ".", "A:.", "A:X", "B:*.*", "*", "?", "**.**", "*.?", ".X", "X.",
            "ABCDEFGH.IJK", "ABCDEFGH*", "A!\"#$%&'.()+", "~}{|"}) {
            says(b, "DIR " + word, "\r\nNo file");
        }
        for (String line : new String[] {"DIR A B", "DIR A=B", "DIR =", "DIR A=", "DIR=A", "ERA", "ERA A B", "ERA =A",
            "REN", "REN A", "REN A B", "REN A=", "REN =A", "REN A=B C", "REN A==B", "REN A?=B", "REN A=B*", "REN=A",
            "REN A=ABCDEFGH*", "TYPE", "TYPE A?", "TYPE *", "TYPE A B", "SAVE", "SAVE 1", "SAVE A", "SAVE 256 A",
            "SAVE -1 A", "SAVE 1 A B", "SAVE 1A B", "SAVE 1 C:A", "USER", "USER 16", "USER X", "USER 1 2", "USER 1=",
            "DUMP", "DUMP A*", "STAT A B", "STAT C:", "COPY", "COPY A", "COPY A=A", "COPY A:X.Y=X.Y", "COPY A=B?",
            "HEXLOAD", "HEXLOAD A.B", "HEXLOAD A?", "HEXLOAD A B", "A: X", "A:=", ".", "A:.", ".COM", "X.COM", "X?",
            "NONE", "B:NONE", "DIR: X", "ABCDEFGHI", "USER 99999999999999999999"}) {
            bad(b, line);
            if (line.length() % 5 == 0) {
                b = new MonitorBoard();
            }
        }
    }

    private static void driveAndUser() {
        MonitorBoard b = new MonitorBoard();
        Kit.due("B:", Kit.line(b, "b:"), "\r\nB>");
        Kit.due("register", b.register(10), 1);
        Kit.due("user", Kit.line(b, "USER 15"), "\r\nB15>");
        Kit.due("register", b.register(11), 15);
        Kit.due("user", Kit.line(b, "USER 9"), "\r\nB9>");
        Kit.due("user", Kit.line(b, "USER 007"), "\r\nB7>");
        Kit.due("A:", Kit.line(b, " A: "), "\r\nA7>");
        Kit.due("user", Kit.line(b, "USER 0"), "\r\nA>");
        Kit.due("C:", Kit.line(b, "C:"), "\r\nC:?\r\nA>");
    }

    private static void directory() {
        MonitorBoard b = new MonitorBoard();
        for (String name : new String[] {"ONE.TXT", "TWO.COM", "THREE", "FOUR.X", "LONGNAME.TYP"}) {
            says(b, "SAVE 0 " + name, "");
        }
        String one = "ONE      TXT";
        String two = "TWO      COM";
        says(b, "DIR", "\r\nA: " + one + " : " + two + " : THREE       " + " : FOUR     X  "
            + "\r\nA: LONGNAME TYP");
        says(b, "DIR T*.*", "\r\nA: " + two + " : THREE       ");
        says(b, "save 0 az.Zaz", "");
        says(b, "dir a?.*", "\r\nA: AZ       ZAZ");
        says(b, "era Az.zAZ", "");
        says(b, "DIR *.?", "\r\nA: THREE        : FOUR     X  ");
        says(b, "DIR *", "\r\nA: THREE       ");
        says(b, "DIR ONE.TXT", "\r\nA: " + one);
        says(b, "DIR A:", "\r\nA: " + one + " : " + two + " : THREE       " + " : FOUR     X  "
            + "\r\nA: LONGNAME TYP");
        says(b, "DIR B:", "\r\nNo file");
        b.disk(0, 2, 1, 10, 128);
        says(b, "DIR ONE.*", "\r\nNo file");
        b.disk(0, 2, 1, 10, 128);
        b.disk(0, 2, 1, 9, 128);
        says(b, "DIR ONE.*", "\r\nA: " + one);
        b.disk(0, 2, 1, 12, 1);
        says(b, "DIR ONE.*", "\r\nNo file");
        b.disk(0, 2, 1, 12, 1);
        Kit.due("another user", Kit.line(b, "USER 1"), "\r\nA1>");
        Kit.due("another user", Kit.line(b, "DIR"), "\r\nNo file\r\nA1>");
        Kit.line(b, "USER 0");
        Kit.line(b, "B:");
        Kit.due("from B", Kit.line(b, "DIR A:TWO.*"), "\r\nA: " + two + "\r\nB>");
        Kit.due("of B", Kit.line(b, "DIR"), "\r\nNo file\r\nB>");
        Kit.line(b, "SAVE 0 X");
        Kit.due("of B", Kit.line(b, "DIR"), "\r\nB: X           \r\nB>");
        Kit.due("no Y", Kit.line(b, "DIR Y"), "\r\nNo file\r\nB>");
        Kit.due("no .X", Kit.line(b, "DIR .X"), "\r\nNo file\r\nB>");
        Kit.due("all", Kit.line(b, "DIR ."), "\r\nB: X           \r\nB>");
    }

    private static void erase() {
        MonitorBoard b = new MonitorBoard();
        for (String name : new String[] {"A1", "A2", "B1", "B:A1"}) {
            Kit.line(b, "SAVE 1 " + name);
        }
        says(b, "ERA A?", "");
        says(b, "DIR", "\r\nA: B1          ");
        says(b, "ERA A?", "\r\nNo file");
        says(b, "ERA .", "\r\nNo file");
        says(b, "DIR B:", "\r\nB: A1          ");
        says(b, "ERA B:*.*", "");
        says(b, "DIR B:", "\r\nNo file");
        says(b, "STAT", "\r\nA: 240k");
    }

    private static void rename() {
        MonitorBoard b = new MonitorBoard();
        Kit.line(b, "SAVE 0 OLD.A");
        Kit.line(b, "SAVE 0 OTHER.A");
        says(b, "REN NEW.B=OLD.A", "");
        says(b, "DIR", "\r\nA: NEW      B   : OTHER    A  ");
        says(b, "REN NEW.B = OTHER.A", "\r\nFile exists");
        says(b, "REN X=NONE", "\r\nNo file");
        says(b, "REN OTHER.A=NONE", "\r\nFile exists");
        says(b, "REN A:X =A:NEW.B", "");
        says(b, "REN A:Y= X", "");
        bad(b, "REN X=B:Y");
        bad(b, "REN B:X=A:Y");
        says(b, "REN B:X=Y", "\r\nNo file");
        Kit.line(b, "B:");
        Kit.due("at hand B", Kit.line(b, "REN X=A:Y"), "\r\nREN?\r\nB>");
        Kit.due("at hand B", Kit.line(b, "REN A:X=A:Y"), "\r\nB>");
    }

    private static void typeAndDump() {
        MonitorBoard b = new MonitorBoard();
        Kit.put(b, 256, "Hello\r\n\u00e9\u001aafter");
        Kit.line(b, "SAVE 1 T.X");
        says(b, "TYPE T.X", "\r\nHello\r\n\u00e9");
        says(b, "TYPE A:T.X", "\r\nHello\r\n\u00e9");
        says(b, "TYPE T", "\r\nNo file");
        says(b, "TYPE B:T.X", "\r\nNo file");
        Kit.line(b, "SAVE 0 E");
        says(b, "TYPE E", "\r\n");
        says(b, "DUMP E", "");
        says(b, "DUMP NONE", "\r\nNo file");
        String dump = Kit.line(b, "DUMP T.X");
        Kit.due("dump", dump.substring(0, 56),
            "\r\n0000 48 65 6C 6C 6F 0D 0A E9 1A 61 66 74 65 72 00 00\r\n");
        Kit.due("sixteen lines", dump.length(), 16 * 54 + 4);
        Kit.due("the last", dump.substring(15 * 54, 15 * 54 + 6), "\r\n00F0");
        b.disk(0, 2, 1, 15, 2 ^ 1);
        Kit.due("records by RC", Kit.line(b, "DUMP T.X").length(), 8 * 54 + 4);
        b.disk(0, 2, 1, 16, 2 ^ 243);
        says(b, "TYPE T.X", "\r\n");
        b.disk(0, 2, 1, 16, 243);
        says(b, "DUMP T.X", "");
        Kit.due("two states", b.states() > 0, true);
    }

    private static void save() {
        MonitorBoard b = new MonitorBoard();
        Kit.put(b, 256, "first");
        Kit.put(b, 256 + 128, "second");
        Kit.put(b, 512, "third");
        says(b, "SAVE 1 X", "");
        says(b, "STAT X", "\r\nX            2 1k");
        Kit.due("record 0", b.disk(0, 2, 20, 0, 0), 'f');
        Kit.due("record 1", b.disk(0, 2, 26, 0, 0), 's');
        says(b, "SAVE 2 X", "");
        says(b, "STAT X", "\r\nX            4 1k");
        says(b, "SAVE 0 X", "");
        says(b, "STAT X", "\r\nX            0 0k");
        says(b, "STAT", "\r\nA: 241k");
        says(b, "SAVE 255 X", "");
        says(b, "STAT X", "\r\nX            510 64k");
        says(b, "STAT", "\r\nA: 177k");
        says(b, "SAVE 1 B:Y", "");
        says(b, "DIR B:", "\r\nB: Y           ");
        says(b, "SAVE 001 Z", "");
    }

    private static void status() {
        MonitorBoard b = new MonitorBoard();
        says(b, "STAT", "\r\nA: 241k");
        says(b, "STAT *.*", "\r\nNo file");
        Kit.line(b, "SAVE 70 BIG.X");
        Kit.line(b, "SAVE 1 SMALL.Y");
        b.disk(0, 2, 1, 10, 128);
        b.disk(0, 2, 1, 9, 128);
        says(b, "STAT *.*", "\r\nBIG      X   140 18k\r\nSMALL    Y   2 1k");
        says(b, "STAT S*.Y", "\r\nSMALL    Y   2 1k");
        b.disk(0, 2, 1, 32 + 12, 1 ^ 156);
        b.disk(0, 2, 1, 32 + 15, 12 ^ 32);
        says(b, "STAT BIG.X", "\r\nBIG      X   20000 18k");
        b.disk(0, 2, 1, 32 + 12, 156 ^ 255);
        b.disk(0, 2, 1, 32 + 15, 32 ^ 255);
        says(b, "STAT BIG.X", "\r\nBIG      X   32895 18k");
        says(b, "STAT A:", "\r\nNo file");
        says(b, "STAT", "\r\nA: 222k");
        Kit.line(b, "B:");
        Kit.due("B", Kit.line(b, "STAT"), "\r\nB: 241k\r\nB>");
    }

    private static void copy() {
        MonitorBoard b = new MonitorBoard();
        Kit.put(b, 256, "text\u001arest");
        Kit.line(b, "SAVE 70 ONE");
        says(b, "COPY TWO=ONE", "");
        says(b, "STAT *.*", "\r\nONE          140 18k\r\nTWO          140 18k");
        says(b, "TYPE TWO", "\r\ntext");
        says(b, "COPY B:ONE = A:ONE", "");
        says(b, "STAT B:*.*", "\r\nONE          140 18k");
        says(b, "COPY X=NONE", "\r\nNo file");
        Kit.line(b, "SAVE 1 SMALL");
        says(b, "COPY TWO=SMALL", "");
        says(b, "STAT TWO", "\r\nTWO          2 1k");
        bad(b, "COPY A:ONE=ONE");
        bad(b, "COPY ONE = ONE");
        Kit.call(b, 0, 0);
        Kit.line(b, "COPY B:X=NONE");
        Kit.due("its drive is not gone to", Kit.result(b, 24, 0), 1);
    }

    private static void makeHex(MonitorBoard b, String name, String text) {
        Kit.put(b, 256, new int[256]);
        Kit.put(b, 256, text);
        Kit.line(b, "SAVE 2 " + name + ".HEX");
    }

    private static void hexload() {
        MonitorBoard b = new MonitorBoard();
        Kit.assemble(b, " MVI C,2\n MVI E,'!'\n JMP 5\n");
        b.hex();
        b.back();
        b.load(256);
        Kit.line(b, "SAVE 1 P.HEX");
        says(b, "HEXLOAD P", "");
        says(b, "P", "!");
        says(b, "STAT P.COM", "\r\nP        COM 1 1k");
        says(b, "HEXLOAD Q", "\r\nNo file");
        makeHex(b, "Z", ":00000001FF");
        says(b, "HEXLOAD Z", "");
        says(b, "STAT Z.COM", "\r\nZ        COM 0 0k");
        makeHex(b, "G", ":02020000ABCD84\r\n:0101800007" + "77\r\n:00123401B9junk");
        says(b, "HEXLOAD A:G", "");
        says(b, "STAT G.COM", "\r\nG        COM 3 1k");
        Kit.due("bytes come", b.memory(0x200), 0xAB);
        Kit.due("bytes come", b.memory(0x180), 7);
        Kit.due("others 0", b.memory(0x100), 0);
        makeHex(b, "H", ":01017F00007F\r\n:00000001FF");
        says(b, "HEXLOAD H", "");
        says(b, "STAT H.COM", "\r\nH        COM 1 1k");
        makeHex(b, "H", ":01018000007E\r\n:00000001FF");
        says(b, "HEXLOAD H", "");
        says(b, "STAT H.COM", "\r\nH        COM 2 1k");
        MonitorBoard c = new MonitorBoard();
        makeHex(c, "L", ":01E3FF00AA73\r\n:00000001FF");
        says(c, "HEXLOAD L", "");
        says(c, "STAT L.COM", "\r\nL        COM 454 57k");
        String[] wrong = {":01E40000AA71\r\n:00000001FF", ":0100FF0001FF\r\n:00000001FF", ":00000001FE",
            ":0100000100FE\r\n:00000001FF", ":00000002FE\r\n:00000001FF", ":0000000g", ":00000001ff", "x:00000001FF",
            "\n:00000001FF", "\r:00000001FF", "\r\n\r\n:00000001FF", ":0001000000", ":01010000\u001a", "",
            ":0101000000FE\r\n", ":0101000000FD\r\n:00000001FF", ":000000010"};
        for (int i = 0; i < wrong.length; i++) {
            MonitorBoard d = new MonitorBoard();
            makeHex(d, "W", wrong[i]);
            Kit.put(d, 256, 99);
            says(d, "HEXLOAD W", "\r\nBad hex");
            Kit.due("memory stays", d.memory(256), 99);
            says(d, "DIR", "\r\nA: W        HEX");
        }
        MonitorBoard d = new MonitorBoard();
        makeHex(d, "V", "\r\n:0001000" + "0FF:00000001FF");
        says(d, "HEXLOAD V", "");
    }

    private static void programs() {
        MonitorBoard b = new MonitorBoard();
        Kit.program(b, " LXI H,0\n DAD SP\n SHLD 4000H\n HLT\n");
        Kit.line(b, "SAVE 1 SHOW.COM");
        Kit.told(b);
        Kit.put(b, 58366, 9, 9);
        Kit.put(b, 91, 9);
        Kit.put(b, 124, 9, 9, 9, 9);
        Kit.type(b, "show b:first.x secon*.?y third\r");
        Kit.due("stops", b.run(1000), 2);
        Kit.due("SP", Kit.word(b, 0x4000), 58366);
        Kit.due("0, 0", Kit.word(b, 58366), 0);
        Kit.due("first", Kit.memory(b, 92, 16), "\u0002FIRST   X  \0\0\0\0");
        Kit.due("second", Kit.memory(b, 108, 16), "\0SECON????Y \0\0\0\0");
        Kit.due("what is ahead", b.memory(91), 9);
        Kit.due("what is behind", Kit.memory(b, 124, 4), "\t\t\t\t");
        String tail = " B:FIRST.X SECON*.?Y THIRD";
        Kit.due("tail", Kit.memory(b, 128, tail.length() + 2), (char) tail.length() + tail + "\0");
        Kit.due("data", b.register(12), 128);
        b.boot();
        showed(b, "SHOW", "\0           ", "\0           ", "");
        showed(b, "A:SHOW=X=A:Y", "\0X          ", "\u0001Y          ", "=X=A:Y");
        showed(b, "SHOW  C:X ABCDEFGHIJ.K", "\0           ", "\0ABCDEFGH   ", "  C:X ABCDEFGHIJ.K");
        showed(b, "SHOW B:A;B X.ABCD ", "\u0002A          ", "\0X       ABC", " B:A;B X.ABCD ");
        b.boot();
        b.load(0);
        Kit.line(b, "SAVE 0 NIL.COM");
        Kit.put(b, 256, 0xC9);
        says(b, "NIL", "");
        Kit.line(b, "B:");
        Kit.due("of its drive", Kit.line(b, "A:NIL"), "\r\nB>");
        Kit.due("not of B", Kit.line(b, "NIL"), "\r\nNIL?\r\nB>");
        Kit.line(b, "USER 4");
        Kit.due("of the user", Kit.line(b, "A:NIL"), "\r\nA:NIL?\r\nB4>");
    }

    private static void showed(MonitorBoard b, String line, String first, String second, String tail) {
        Kit.type(b, line + "\r");
        Kit.due(line + " stops", b.run(1000), 2);
        Kit.due(line + " first", Kit.memory(b, 92, 16), first + "\0\0\0\0");
        Kit.due(line + " second", Kit.memory(b, 108, 16), second + "\0\0\0\0");
        Kit.due(line + " tail", Kit.memory(b, 128, tail.length() + 2), (char) tail.length() + tail + "\0");
        Kit.due("HL is SP", b.register(4) << 8 | b.register(5), 58366);
        for (int i : new int[] {0, 1, 2, 3, 7}) {
            Kit.due("register " + i, b.register(i), 0);
        }
        Kit.call(b, 0, 0);
    }

    private static void load() {
        MonitorBoard b = new MonitorBoard();
        Kit.put(b, 256, 0x76);
        Kit.line(b, "SAVE 227 FULL.COM");
        Kit.type(b, "FULL\r");
        Kit.due("454 records", b.run(100), 2);
        Kit.call(b, 0, 0);
        Kit.put(b, 256, "xx");
        Kit.line(b, "SAVE 228 MORE.COM");
        Kit.put(b, 256, 0, 0);
        says(b, "MORE", "\r\nBad load");
        Kit.due("what came stays", b.memory(256), 'x');
        b.disk(0, 2, 7, 3 * 32 + 15, 72 ^ 71);
        says(b, "STAT MORE.COM", "\r\nMORE     COM 455 57k");
        says(b, "MORE", "\r\nBad load");
        Kit.due("the first behind them stays", b.memory(58368), 0);
        b.disk(0, 2, 7, 3 * 32 + 15, 71 ^ 70);
        Kit.put(b, 256, 0, 0);
        Kit.type(b, "MORE\r");
        b.run(1);
        Kit.due("454 begin", b.register(9), 257);
    }

    /** Files whose names no program may have. */
    private static void namesOfPrograms() {
        MonitorBoard b = new MonitorBoard();
        Kit.put(b, 256, 0xC9);
        for (String name : new String[] {"A?.COM", ".COM", "A.X", "A.COX"}) {
            says(b, "SAVE 1 " + name, "");
        }
        for (String line : new String[] {"A?", ".", "A:.", "A.X", "A.COX", "A", "A*"}) {
            bad(b, line);
        }
        bad(b, "A: A");
        says(b, "SAVE 1 A.COM", "");
        says(b, "A", "");
        says(b, "A.", "");
        says(b, "A:A.", "");
        bad(b, "A.COM");
        bad(b, "A.*");
    }

    /** What a text that was refused left behind does not count for the next. */
    private static void hexAgain() {
        MonitorBoard b = new MonitorBoard();
        for (String wrong : new String[] {":0101000077", ":01010000A", "\r", "\r\n", ":01"}) {
            makeHex(b, "W", wrong);
            makeHex(b, "G", ":0101000077" + "87\r\n:00000001FF");
            says(b, "HEXLOAD W", "\r\nBad hex");
            says(b, "HEXLOAD G", "");
            Kit.due("its byte", b.memory(256), 0x77);
        }
    }

    /** A command LOGS the drive in that it goes to. */
    private static void logsIn() {
        for (String line : new String[] {"DIR B:", "ERA B:X", "REN B:X=Y", "TYPE B:X", "SAVE 0 B:X", "DUMP B:X", "STAT B:X",
            "COPY X=B:Y", "HEXLOAD B:X", "B:X"}) {
            MonitorBoard b = new MonitorBoard();
            Kit.line(b, line);
            Kit.due("B is LOGGED in by " + line, Kit.result(b, 24, 0), 3);
        }
        MonitorBoard b = new MonitorBoard();
        Kit.line(b, "SAVE 0 Y");
        Kit.line(b, "COPY B:X=Y");
        Kit.due("B is LOGGED in by COPY", Kit.result(b, 24, 0), 3);
        for (String line : new String[] {"STAT", "DIR", "TYPE Y", "USER 0", "DIR C:", "TYPE B:?", "TYPE B:X Y", "REN A:X=B:X"}) {
            MonitorBoard c = new MonitorBoard();
            Kit.line(c, line);
            Kit.due("B is not LOGGED in by " + line, Kit.result(c, 24, 0), 1);
        }
    }

    /** All 64 ENTRIES are looked at by each command. */
    private static void fullDirectory() {
        MonitorBoard b = new MonitorBoard();
        StringBuilder keys = new StringBuilder();
        for (int i = 0; i < 64; i++) {
            keys.append("SAVE 0 F").append(i).append("\r");
        }
        Kit.type(b, keys.toString());
        b.run(10);
        String all = Kit.line(b, "DIR");
        Kit.due("the last one", all.endsWith(" : F63         \r\nA>"), true);
        Kit.due("sixteen rows", all.length(), 16 * (5 + 4 * 12 + 3 * 3) + 4);
        String sizes = Kit.line(b, "STAT *.*");
        Kit.due("the last one", sizes.endsWith("\r\nF63          0 0k\r\nA>"), true);
        Kit.due("64 rows", sizes.length(), 64 * 19 + 4);
        says(b, "ERA *.*", "");
        says(b, "DIR", "\r\nNo file");
        for (int i = 0; i < 64; i++) {
            int sector = 1 + (6 * (i / 4) + i / 52) % 26;
            Kit.due("free " + i, b.disk(0, 2, sector, i % 4 * 32, 0), 0xE5);
        }
    }

    /** A file of several extents, and one with an extent that is not full. */
    private static void longFiles() {
        MonitorBoard b = new MonitorBoard();
        for (int i = 0; i < 200; i++) {
            Kit.put(b, 256 + 128 * i, (i % 90) + 33, 10);
        }
        Kit.line(b, "SAVE 100 LONG");
        says(b, "STAT LONG", "\r\nLONG         200 25k");
        Kit.told(b);
        Kit.type(b, "DUMP LONG\r");
        Kit.due("states", b.run(200000), 1);
        Kit.due("one for each byte", b.states(), 25600);
        Kit.told(b);
        b.disk(0, 2, 1, 15, 128 ^ 100);
        Kit.type(b, "DUMP LONG\r");
        b.run(200000);
        Kit.due("each extent by its RC", b.states(), 25600 + 25600 - 28 * 128);
        b.disk(0, 2, 1, 32 + 12, 1 ^ 2);
        Kit.type(b, "DUMP LONG\r");
        b.run(200000);
        Kit.due("none behind a missing one", b.states(), 25600 + 25600 - 28 * 128 + 12800);
        Kit.due("modulo", Kit.told(b).contains("\r\n31F0 "), true);
    }

    private static void space() {
        MonitorBoard b = new MonitorBoard();
        for (int i = 0; i < 3; i++) {
            says(b, "SAVE 255 F" + i, "");
        }
        says(b, "STAT", "\r\nA: 49k");
        says(b, "SAVE 255 F3", "\r\nNo space");
        says(b, "STAT", "\r\nA: 0k");
        says(b, "STAT F3", "\r\nF3           392 49k");
        says(b, "SAVE 1 G", "\r\nNo space");
        says(b, "STAT G", "\r\nG            0 0k");
        says(b, "COPY H=F0", "\r\nNo space");
        says(b, "ERA F3", "");
        says(b, "COPY H=F0", "\r\nNo space");
        says(b, "STAT H", "\r\nH            392 49k");
        MonitorBoard c = new MonitorBoard();
        StringBuilder keys = new StringBuilder();
        for (int i = 0; i < 64; i++) {
            keys.append("SAVE 0 F").append(i).append("\r");
        }
        Kit.type(c, keys.toString());
        c.run(10);
        says(c, "SAVE 0 G", "\r\nNo space");
        says(c, "SAVE 0 F9", "");
        says(c, "SAVE 65 F9", "\r\nNo space");
        says(c, "STAT F9", "\r\nF9           128 16k");
    }

    /** All 32 extents are read, and no more. */
    private static void allExtents() {
        MonitorBoard b = new MonitorBoard();
        StringBuilder keys = new StringBuilder();
        for (int i = 0; i < 33; i++) {
            keys.append("SAVE 1 F").append(i).append("\r");
        }
        Kit.type(b, keys.toString());
        b.run(1000);
        for (int e = 0; e < 33; e++) {
            int sector = 1 + 6 * (e / 4) % 26;
            if (e > 0) {
                b.disk(0, 2, sector, e % 4 * 32 + 12, e);
            }
            int tens = e < 10 ? ' ' : '0' + e % 10;
            int ones = e < 10 ? '0' + e : '0' + e / 10;
            b.disk(0, 2, sector, e % 4 * 32 + 2, ones ^ 'X');
            b.disk(0, 2, sector, e % 4 * 32 + 3, tens ^ 'Y');
        }
        Kit.type(b, "DUMP FXY\r");
        b.run(200000);
        Kit.due("32 extents of two records", b.states(), 32 * 256);
        says(b, "STAT FXY", "\r\nFXY          4098 33k");
    }

    private static void errors() {
        MonitorBoard b = new MonitorBoard();
        Kit.line(b, "SAVE 1 R.X");
        b.disk(0, 2, 1, 9, 128);
        says(b, "ERA R.X", "\r\nBdos Err On A: File R/O");
        says(b, "ERA *.*", "\r\nBdos Err On A: File R/O");
        says(b, "SAVE 1 R.X", "\r\nBdos Err On A: File R/O");
        says(b, "REN Q=R.X", "\r\nBdos Err On A: File R/O");
        says(b, "COPY R.X=R.X", "\r\nCOPY?");
        says(b, "COPY B:R.X=R.X", "");
        says(b, "COPY R.X=B:R.X", "\r\nBdos Err On A: File R/O");
        says(b, "DIR B:", "\r\nB: R        X  ");
        says(b, "ERA B:R.X", "");
        Kit.result(b, 28, 0);
        Kit.call(b, 0, 0);
        says(b, "SAVE 1 NEW", "\r\nBdos Err On A: R/O");
        says(b, "ERA NONE", "\r\nBdos Err On A: R/O");
        says(b, "REN A=B", "\r\nNo file");
        says(b, "COPY B:Z=R.X", "");
    }
}
