/** The boundary cases that promises 1 to 18 name by themselves: each sentence has its own part here. */
public final class FaceEdgesTest {
    private static final int[] FAR = {Integer.MIN_VALUE, Integer.MIN_VALUE + 1, -65536, -2, Integer.MAX_VALUE - 1, Integer.MAX_VALUE};

    public static void main(String[] args) {
        newObject();
        feedRefused();
        feedBytes();
        endRefused();
        keysRefused();
        keysAllTaken();
        bootOfEachState();
        runRefused();
        runUntilUsed();
        runWaits();
        runOfLines();
        statesCounted();
        registersBeyond();
        memoryBeyond();
        loadAround();
        jumpAround();
        jumpLeaves();
        consoleFull();
        outBeyond();
        assembleEmptyAndFault();
        backCut();
        diskBeyond();
        listAround();
        hexRows();
        hexCut();
        Kit.finish();
    }

    /** Promise 1: two drives with nothing on them, a board that was booted. */
    private static void newObject() {
        MonitorBoard b = new MonitorBoard();
        Kit.due("no tape", b.end(1), false);
        Kit.due("no key", b.keys(), 0);
        Kit.due("no out", b.out(0), -1);
        Kit.due("nothing to go back", b.back(), 0);
        Kit.due("no state", b.states(), 0);
        for (int drive = 0; drive < 2; drive++) {
            for (int track = 0; track < 77; track += 19) {
                Kit.due("E5", b.disk(drive, track, 1, 0, 0), 0xE5);
                Kit.due("E5", b.disk(drive, track, 26, 127, 0), 0xE5);
            }
        }
        Kit.due("no file on A", Kit.line(b, "DIR A:"), "\r\nNo file\r\nA>");
        Kit.due("no file on B", Kit.line(b, "DIR B:"), "\r\nNo file\r\nA>");
        Kit.due("241 BLOCKS", Kit.line(b, "STAT"), "\r\nA: 241k\r\nA>");
    }

    /** Promise 2: false, changing nothing, when it would have more than 4000. */
    private static void feedRefused() {
        MonitorBoard b = new MonitorBoard();
        for (int i = 0; i < 199; i++) {
            b.feed(0x11111111, 0x11111111, 0x11111111, 0x11111111, 0x11111111);
        }
        Kit.due("the 4000th", b.feed(0x22222222, 0x22222222, 0x22222222, 0x22222222, 0x22222233), true);
        Kit.due("the 4001st", b.feed(0x44444444, 0x44444444, 0x44444444, 0x44444444, 0x44444444), false);
        Kit.due("again", b.feed(0x44444444, 0x44444444, 0x44444444, 0x44444444, 0x44444444), false);
        Kit.due("no 4001", b.end(4001), false);
        Kit.due("4000", b.end(4000), true);
        b.load(1000);
        Kit.due("the first stays", b.memory(1000), 0x11);
        Kit.due("the last stays", b.memory(4999), 0x33);
        Kit.due("none behind", b.memory(5000), 0);
        Kit.due("then there is room", b.feed(1, 2, 3, 4, 5), true);
        Kit.due("for 20", b.end(21), false);
        for (int room = 0; room < 22; room++) {
            MonitorBoard c = new MonitorBoard();
            Kit.tape(c, new byte[4000 - room]);
            Kit.due("room of " + room, c.feed(-1, -1, -1, -1, -1), room >= 20);
            Kit.due("how many", c.end(4000 - room + 1), room >= 20);
        }
    }

    /** Promise 2: of each number the highest byte first. */
    private static void feedBytes() {
        MonitorBoard b = new MonitorBoard();
        b.feed(Integer.MIN_VALUE, Integer.MAX_VALUE, -2, 0x00FF0100, 1);
        b.load(0x2000);
        int[] due = {0x80, 0, 0, 0, 0x7F, 255, 255, 255, 255, 255, 255, 254, 0, 255, 1, 0, 0, 0, 0, 1};
        for (int i = 0; i < 20; i++) {
            Kit.due("byte " + i, b.memory(0x2000 + i), due[i]);
        }
    }

    /** Promise 3: false, changing nothing, when it has not so many, or n is below 0. */
    private static void endRefused() {
        MonitorBoard b = new MonitorBoard();
        Kit.due("0 of none", b.end(0), true);
        Kit.due("1 of none", b.end(1), false);
        b.feed(0x01020304, 0x05060708, 0, 0, 0);
        for (int n : new int[] {-1, 21, Integer.MIN_VALUE, Integer.MAX_VALUE}) {
            Kit.due("end " + n, b.end(n), false);
            Kit.due("nothing changed", b.end(20), true);
        }
        Kit.due("all", b.end(20), true);
        Kit.due("some", b.end(5), true);
        Kit.due("more again", b.end(6), false);
        Kit.due("refused, five stay", b.end(-1), false);
        b.feed(0x99000000, 0, 0, 0, 0);
        b.load(0x2000);
        Kit.due("behind the fifth", Kit.memory(b, 0x2000, 6), "\1\2\3\4\5\u0099");
        Kit.due("empty then", b.end(1), false);
    }

    /** Promise 4: -1, the tape stays, when there would be more than 2000. */
    private static void keysRefused() {
        MonitorBoard b = new MonitorBoard();
        Kit.tape(b, new byte[2001]);
        Kit.due("2001 at once", b.keys(), -1);
        Kit.due("the tape stays", b.end(2001), true);
        Kit.due("cut", b.end(2000), true);
        Kit.due("2000 at once", b.keys(), 2000);
        Kit.due("the tape is empty", b.end(1), false);
        Kit.due("none more", b.keys(), 2000);
        Kit.tape(b, "x");
        Kit.due("one more", b.keys(), -1);
        Kit.due("the tape stays", b.end(1), true);
        Kit.due("2000 still wait", b.keys(), -1);
        b.boot();
        Kit.due("a boot takes them away, not the tape", b.keys(), 1);
        MonitorBoard c = new MonitorBoard();
        Kit.tape(c, new byte[4000]);
        Kit.due("a full tape", c.keys(), -1);
        Kit.due("stays", c.end(4000), true);
        Kit.due("no key came", c.run(1), 1);
        Kit.due("none waits", c.end(0) ? c.keys() : -2, 0);
    }

    /** Promise 4: all 2000 are taken, though none ends a line. */
    private static void keysAllTaken() {
        for (int way = 0; way < 2; way++) {
            MonitorBoard b = new MonitorBoard();
            byte[] back = new byte[2000];
            java.util.Arrays.fill(back, (byte) (way == 0 ? 8 : 127));
            Kit.tape(b, back);
            Kit.due("2000", b.keys(), 2000);
            if (way == 1) {
                Kit.put(b, 0x2000, 9);
                Kit.put(b, 256, 0x31, 0, 0x40, 0x0E, 10, 0x11, 0, 0x20, 0xCD, 5, 0, 0x76);
                b.jump(256);
            }
            Kit.due("waits", b.run(1000), 1);
            Kit.due("none is left", b.keys(), 0);
        }
    }

    /** Promise 5: a cold boot out of each state that the board can be in. */
    private static void bootOfEachState() {
        MonitorBoard b = new MonitorBoard();
        for (int state = 0; state < 4; state++) {
            Kit.put(b, 256, 0x76);
            if (state == 1) {
                b.jump(256);
                Kit.due("stopped", b.run(10), 2);
            } else if (state == 2) {
                Kit.put(b, 0x2000, 5);
                Kit.type(b, "pq");
                Kit.due("in a call that waits", Kit.call(b, 10, 0x2000), 1);
            } else if (state == 3) {
                Kit.type(b, "DI");
                Kit.due("in a line", b.run(10), 1);
            }
            Kit.told(b);
            b.boot();
            Kit.due("told at once", Kit.told(b), "\r\n62K\r\nA>");
            Kit.due("PC", b.register(9), 60419);
            Kit.due("MEMORY is 0", b.memory(256), 0);
            Kit.type(b, "\r");
            Kit.due("at the command line", b.run(10), 1);
            Kit.due("an empty line", Kit.told(b), "\r\r\nA>");
        }
        Kit.tape(b, "keep");
        b.boot();
        b.load(700);
        Kit.due("the tape stays", Kit.memory(b, 700, 4), "keep");
        Kit.due("told", b.console(), 9);
        b.boot();
        Kit.due("the out stays", b.out(8), '>');
    }

    /** Promise 6: for other n it does nothing, and answers 2 if it is STOPPED, else 0. */
    private static void runRefused() {
        int[] wrong = {0, -1, 200001, Integer.MIN_VALUE, Integer.MAX_VALUE};
        MonitorBoard b = new MonitorBoard();
        Kit.type(b, "DIR\r");
        Kit.told(b);
        for (int n : wrong) {
            Kit.due("at the command line, run " + n, b.run(n), 0);
        }
        Kit.due("no key was taken", b.keys(), 4);
        Kit.due("nothing told", b.console(), 0);
        MonitorBoard c = new MonitorBoard();
        Kit.due("waits", Kit.call(c, 1, 0), 1);
        for (int n : wrong) {
            Kit.due("in a call that waits, run " + n, c.run(n), 0);
        }
        Kit.type(c, "k");
        Kit.due("in a call that waited, run 0", c.run(0), 0);
        Kit.due("the key is there", c.keys(), 1);
        Kit.due("run 200000", c.run(200000), 2);
        long states = c.states();
        for (int n : wrong) {
            Kit.due("stopped, run " + n, c.run(n), 2);
        }
        Kit.due("no states", c.states(), states);
        Kit.due("stopped, run 1", c.run(1), 2);
        Kit.due("stopped, run 200000", c.run(200000), 2);
        Kit.due("no states", c.states(), states);
    }

    /** Promise 6: until these are used; what began below n is done. */
    private static void runUntilUsed() {
        int[][] due = {{1, 18}, {17, 18}, {18, 18}, {19, 22}, {22, 22}, {23, 32}, {32, 32}, {33, 50}, {50, 50}};
        for (int[] d : due) {
            MonitorBoard b = new MonitorBoard();
            Kit.put(b, 256, 0xE3, 0x00, 0xC3, 0x00, 0x01);
            b.jump(256);
            Kit.due("run " + d[0], b.run(d[0]), 0);
            Kit.due("states of run " + d[0], b.states(), d[1]);
        }
        MonitorBoard b = new MonitorBoard();
        Kit.put(b, 256, 0xC3, 0, 1);
        b.jump(256);
        Kit.due("200000", b.run(200000), 0);
        Kit.due("20000 jumps", b.states(), 200000);
        Kit.due("199999", b.run(199999), 0);
        Kit.due("20000 jumps", b.states(), 400000);
        MonitorBoard c = new MonitorBoard();
        Kit.put(c, 256, 0x31, 0, 0x40, 0xCD, 0x06, 0xEC, 0x76);
        c.jump(256);
        Kit.due("a call of the BIOS that began at the last state", c.run(28), 0);
        Kit.due("is done", c.states(), 77);
        Kit.due("with its RET", c.register(9), 262);
    }

    /** Promise 6: it WAITS: 1; when the states are used first: 0. */
    private static void runWaits() {
        MonitorBoard b = new MonitorBoard();
        Kit.put(b, 256, 0x31, 0, 0x40, 0xCD, 0x09, 0xEC, 0x76);
        b.jump(256);
        Kit.due("used ahead of it", b.run(27), 0);
        Kit.due("at the entry", b.register(9), 60425);
        Kit.due("one state more", b.run(1), 1);
        Kit.due("none used", b.states(), 27);
        Kit.type(b, "k");
        Kit.due("one state is enough", b.run(1), 0);
        Kit.due("fifty", b.states(), 77);
        Kit.due("stops", b.run(1), 2);
        MonitorBoard c = new MonitorBoard();
        Kit.due("the command line waits", c.run(1), 1);
        Kit.due("and again", c.run(200000), 1);
        Kit.due("no states", c.states(), 0);
    }

    /** Promise 6: one state for each byte that TYPE or DUMP tells, looked at behind each line. */
    private static void runOfLines() {
        MonitorBoard b = new MonitorBoard();
        Kit.put(b, 256, "12345\u001a");
        Kit.line(b, "SAVE 1 F");
        Kit.line(b, "SAVE 0 E");
        Kit.due("no states for SAVE", b.states(), 0);
        int[][] due = {{1, 0, 5, 1}, {5, 0, 5, 1}, {6, 0, 10, 2}, {10, 0, 10, 2}, {11, 0, 15, 3}, {15, 0, 15, 3}, {16, 1, 15, 3}};
        for (int[] d : due) {
            long before = b.states();
            Kit.told(b);
            Kit.type(b, "TYPE F\rTYPE F\rTYPE F\r");
            Kit.due("run " + d[0], b.run(d[0]), d[1]);
            Kit.due("states", b.states() - before, d[2]);
            Kit.due("lines", Kit.told(b).split("12345", -1).length - 1, d[3]);
            b.run(200000);
        }
        long before = b.states();
        Kit.line(b, "TYPE E");
        Kit.line(b, "DUMP E");
        Kit.line(b, "TYPE NONE");
        Kit.line(b, "DUMP NONE");
        Kit.due("no byte, no state", b.states(), before);
        Kit.line(b, "COPY G=F");
        Kit.line(b, "HEXLOAD F");
        Kit.due("others use none", b.states(), before);
        Kit.line(b, "DUMP F");
        Kit.due("256 of DUMP", b.states(), before + 256);
    }

    /** Promise 7: since the beginning, whatever came between. */
    private static void statesCounted() {
        MonitorBoard b = new MonitorBoard();
        Kit.put(b, 256, 0xC3, 0, 1);
        for (int i = 1; i <= 100; i++) {
            b.jump(256);
            b.run(200000);
        }
        Kit.due("a hundred times", b.states(), 20000000L);
        b.boot();
        Kit.due("a boot leaves them", b.states(), 20000000L);
        b.run(10);
        Kit.due("waiting uses none", b.states(), 20000000L);
    }

    /** Promise 8: -1 for others. */
    private static void registersBeyond() {
        MonitorBoard b = new MonitorBoard();
        for (int i : FAR) {
            Kit.due("register " + i, b.register(i), -1);
        }
        Kit.due("register -1", b.register(-1), -1);
        Kit.due("register 13", b.register(13), -1);
        Kit.runProgram(b, " LXI SP,4321H\n LXI B,102H\n LXI D,304H\n LXI H,506H\n XRA A\n DCR A\n HLT\n");
        int[] due = {1, 2, 3, 4, 5, 6, 0x80 + 0x04 + 0x02, 255, 0x4321, 256 + 15, 0, 0, 128};
        for (int i = 0; i < due.length; i++) {
            Kit.due("register " + i, b.register(i), due[i]);
        }
    }

    /** Promise 9: -1 beyond. */
    private static void memoryBeyond() {
        MonitorBoard b = new MonitorBoard();
        Kit.put(b, 65535, 200, 201);
        Kit.due("the last", b.memory(65535), 200);
        Kit.due("the first", b.memory(0), 201);
        Kit.due("65536", b.memory(65536), -1);
        Kit.due("-1", b.memory(-1), -1);
        for (int at : FAR) {
            Kit.due("memory " + at, b.memory(at), -1);
        }
    }

    /** Promise 10: from a place on (modulo 65536). */
    private static void loadAround() {
        MonitorBoard b = new MonitorBoard();
        int[][] places = {{65535, 65535}, {65536, 0}, {-1, 65535}, {-65536, 0}, {Integer.MAX_VALUE, 65535}, {Integer.MIN_VALUE, 0},
            {131071, 65535}, {-65537, 65535}};
        for (int[] p : places) {
            Kit.put(b, 0, 0, 0);
            Kit.put(b, 65535, 0);
            Kit.put(b, p[0], 7, 8);
            Kit.due("load at " + p[0], b.memory(p[1]), 7);
            Kit.due("behind it", b.memory((p[1] + 1) % 65536), 8);
        }
        MonitorBoard c = new MonitorBoard();
        byte[] full = new byte[4000];
        full[0] = 1;
        full[2000] = 2;
        full[3999] = 3;
        Kit.tape(c, full);
        c.load(65536 - 2000);
        Kit.due("a full tape", c.memory(65536 - 2000), 1);
        Kit.due("around", c.memory(0), 2);
        Kit.due("its last", c.memory(1999), 3);
        c.load(0);
        Kit.due("an empty one", c.memory(0), 2);
    }

    /** Promise 11: an address of 16 bits. */
    private static void jumpAround() {
        MonitorBoard b = new MonitorBoard();
        int[][] places = {{0, 0}, {65535, 65535}, {65536, 0}, {-1, 65535}, {Integer.MAX_VALUE, 65535}, {Integer.MIN_VALUE, 0}, {70000, 4464}};
        for (int[] p : places) {
            b.jump(p[0]);
            Kit.due("jump " + p[0], b.register(9), p[1]);
        }
        Kit.put(b, 65535, 0x3C, 0x76);
        b.jump(-1);
        Kit.due("goes on around", b.run(100), 2);
        Kit.due("PC", b.register(9), 1);
    }

    /** Promise 11: no longer at the COMMAND LINE, in a call that WAITS, nor STOPPED. */
    private static void jumpLeaves() {
        MonitorBoard b = new MonitorBoard();
        Kit.put(b, 700, 0x3C, 0xC3, 0xBD, 0x02);
        Kit.type(b, "DIR\r");
        Kit.told(b);
        b.jump(700);
        Kit.due("not at the command line", b.run(5), 0);
        Kit.due("INR", b.register(7), 1);
        Kit.due("the keys wait", b.keys(), 4);
        Kit.due("nothing told", b.console(), 0);
        MonitorBoard c = new MonitorBoard();
        Kit.put(c, 700, 0x3C, 0x76);
        Kit.due("call 1 waits", Kit.call(c, 1, 0), 1);
        c.jump(700);
        Kit.due("goes on elsewhere", c.run(100), 2);
        Kit.due("INR", c.register(7), 1);
        c.jump(700);
        Kit.due("not stopped", c.run(0), 0);
        Kit.due("goes on", c.run(100), 2);
        Kit.due("INR", c.register(7), 2);
        Kit.due("the stack stays", c.register(8), 0x3FFE);
    }

    /** Tells so many signs, of which each is its number's lower byte, the last one's number being 1. */
    private static MonitorBoard teller(int signs) {
        MonitorBoard b = new MonitorBoard();
        b.console();
        Kit.runProgram(b, " LXI H," + signs + "\nL: MOV A,L\n OUT 1\n DCX H\n MOV A,H\n ORA L\n JNZ L\n HLT\n");
        return b;
    }

    /** Promise 12: at most 8000 bytes, the earliest are gone. */
    private static void consoleFull() {
        for (int signs : new int[] {1, 7999, 8000, 8001, 8002, 16000, 16001, 20000}) {
            MonitorBoard b = teller(signs);
            int count = Math.min(signs, 8000);
            Kit.due("of " + signs, b.console(), count);
            Kit.due("the first that stays", b.out(0), count & 255);
            Kit.due("the last", b.out(count - 1), 1);
            Kit.due("behind it", b.out(count), -1);
            Kit.due("nothing since", b.console(), 0);
            Kit.due("the out is empty", b.out(0), -1);
        }
    }

    /** Promise 13: -1 without one. */
    private static void outBeyond() {
        MonitorBoard b = new MonitorBoard();
        Kit.due("none yet", b.out(0), -1);
        b.console();
        for (int i : FAR) {
            Kit.due("out " + i, b.out(i), -1);
        }
        Kit.due("out -1", b.out(-1), -1);
        Kit.due("out 0", b.out(0), 13);
        Kit.due("out 8", b.out(8), '>');
        Kit.due("out 9", b.out(9), -1);
        Kit.assemble(b, " DB 0,128,255\n");
        Kit.due("0", b.out(0), 0);
        Kit.due("128", b.out(1), 128);
        Kit.due("255", b.out(2), 255);
        Kit.due("what the longer one had is gone", b.out(3), -1);
    }

    /** Promise 14: a FAULT is -1 - its place, the OUT is empty; the tape is empty then. */
    private static void assembleEmptyAndFault() {
        MonitorBoard b = new MonitorBoard();
        b.console();
        Kit.due("an empty tape", b.assemble(), 0);
        Kit.due("the out is empty", b.out(0), -1);
        b.console();
        Kit.due("at 0", Kit.assemble(b, "?"), -1);
        Kit.due("the out is empty", b.out(0), -1);
        Kit.due("the tape is empty", b.end(1), false);
        Kit.due("behind the last byte", Kit.assemble(b, " DW "), -1 - 4);
        Kit.due("of a full tape", Kit.assemble(b, " ".repeat(3998) + "DW"), -1 - 4000);
        Kit.due("the last byte of a full tape", Kit.assemble(b, " ".repeat(3999) + "?"), -1 - 3999);
        Kit.due("a full tape", Kit.assemble(b, " ".repeat(3997) + "NOP"), 1);
        Kit.due("the tape is empty", b.end(1), false);
        Kit.due("as many as there can be", Kit.assemble(b, " ORG 58367\n NOP"), 58112);
        Kit.due("the last", b.out(58111), 0);
        Kit.due("no more", b.out(58112), -1);
    }

    /** Promise 15: the OUT becomes the tape (its first 4000 bytes). */
    private static void backCut() {
        for (int n : new int[] {0, 1, 3999, 4000, 4001, 8000, 58112}) {
            MonitorBoard b = new MonitorBoard();
            Kit.tape(b, "old");
            b.end(3);
            Kit.due("so many", Kit.assemble(b, " DS " + n + "\n"), n);
            Kit.tape(b, "what was on the tape is gone");
            Kit.due("back of " + n, b.back(), Math.min(n, 4000));
            Kit.due("all", b.end(Math.min(n, 4000) + 1), false);
            Kit.due("the out stays", b.out(n - 1), n == 0 ? -1 : 0);
        }
        MonitorBoard b = new MonitorBoard();
        Kit.assemble(b, " ORG 4254\n DB 1,2,3\n");
        Kit.due("4000", b.back(), 4000);
        b.load(10000);
        Kit.due("the first", b.memory(10000), 0);
        Kit.due("the 3999th", b.memory(13998), 1);
        Kit.due("the 4000th", b.memory(13999), 2);
        Kit.due("no 4001st", b.memory(14000), 0);
    }

    /** Promise 16: -1 when there is none. */
    private static void diskBeyond() {
        MonitorBoard b = new MonitorBoard();
        for (int far : FAR) {
            Kit.due("drive " + far, b.disk(far, 0, 1, 0, 1), -1);
            Kit.due("track " + far, b.disk(0, far, 1, 0, 1), -1);
            Kit.due("sector " + far, b.disk(0, 0, far, 0, 1), -1);
            Kit.due("byte " + far, b.disk(0, 0, 1, far, 1), -1);
            Kit.due("any mask " + far, b.disk(1, 76, 26, 127, far), 0xE5 ^ far & 255);
            b.disk(1, 76, 26, 127, far);
        }
        int[][] edges = {{0, 1}, {0, 76}, {1, 26}, {0, 127}};
        for (int which = 0; which < 4; which++) {
            for (int side = 0; side < 2; side++) {
                int[] at = {1, 40, 13, 60};
                at[which] = edges[which][side];
                Kit.due("there", b.disk(at[0], at[1], at[2], at[3], 0), 0xE5);
                at[which] += side == 0 ? -1 : 1;
                Kit.due("not there", b.disk(at[0], at[1], at[2], at[3], 255), -1);
            }
        }
        Kit.due("xor", b.disk(0, 0, 1, 0, 255), 0x1A);
        Kit.due("only that byte", b.disk(0, 0, 1, 1, 0), 0xE5);
        Kit.due("only that sector", b.disk(0, 0, 2, 0, 0), 0xE5);
        Kit.due("only that track", b.disk(0, 1, 1, 0, 0), 0xE5);
        Kit.due("only that drive", b.disk(1, 0, 1, 0, 0), 0xE5);
        Kit.due("back again", b.disk(0, 0, 1, 0, -1), 0xE5);
    }

    /** Promise 17: the code at a place (modulo 65536). */
    private static void listAround() {
        MonitorBoard b = new MonitorBoard();
        Kit.put(b, 65534, 0xC3, 0xCD, 0xAB);
        for (int at : new int[] {65534, -2, 131070, Integer.MAX_VALUE - 1}) {
            Kit.due("list " + at, Kit.out(b, b.list(at)), "JMP 0ABCDH");
        }
        Kit.put(b, 65535, 0x3E, 0x9F);
        for (int at : new int[] {65535, -1, Integer.MAX_VALUE}) {
            Kit.due("list " + at, Kit.out(b, b.list(at)), "MVI A,9FH");
        }
        Kit.put(b, 0, 0x11, 0xFF, 0x9F);
        for (int at : new int[] {0, 65536, Integer.MIN_VALUE}) {
            Kit.due("list " + at, Kit.out(b, b.list(at)), "LXI D,9FFFH");
        }
        Kit.put(b, 0, 0xC7, 0xA0);
        Kit.due("a digit", Kit.out(b, b.list(0)), "RST 0");
        Kit.due("no operand", Kit.out(b, b.list(2)), "SBB A");
        Kit.due("what the longer one had is gone", b.out(5), -1);
    }

    /** The lines that are due for so many bytes of OUT, all 0 but the last, which is 255. */
    private static String rows(int count) {
        StringBuilder text = new StringBuilder();
        for (int from = 0; from < count; from += 16) {
            int n = Math.min(16, count - from);
            int at = 256 + from;
            int sum = n + at / 256 + at % 256;
            text.append(String.format(":%02X%04X00", n, at));
            for (int i = from; i < from + n; i++) {
                int value = i == count - 1 ? 255 : 0;
                sum += value;
                text.append(String.format("%02X", value));
            }
            text.append(String.format("%02X\r\n", (256 - sum % 256) % 256));
        }
        return text + ":00000001FF\r\n";
    }

    /** Promise 18: 16 bytes each (the last one fewer), then the end. */
    private static void hexRows() {
        for (int count : new int[] {0, 1, 2, 15, 16, 17, 31, 32, 33, 240, 241, 256, 257, 272}) {
            MonitorBoard b = new MonitorBoard();
            String source = count == 0 ? "" : " DS " + (count - 1) + "\n DB 255\n";
            Kit.due("bytes", Kit.assemble(b, source), count);
            String due = rows(count);
            int n = b.hex();
            Kit.due("hex of " + count, n, due.length());
            if (n < 400) {
                Kit.due("its lines", Kit.out(b, n), due);
            }
            Kit.due("no more", b.out(n), -1);
        }
    }

    /** Promise 18: at most 2000 of them; and HEXLOAD reads what hex tells. */
    private static void hexCut() {
        for (int count : new int[] {1999, 2000, 2001, 2016, 58112}) {
            MonitorBoard b = new MonitorBoard();
            Kit.assemble(b, " DS " + (Math.min(count, 2000) - 1) + "\n DB 255\n DS " + Math.max(count - 2000, 0) + "\n");
            String due = rows(Math.min(count, 2000));
            int n = b.hex();
            Kit.due("hex of " + count, n, due.length());
            int wrong = 0;
            for (int i = n - 60; i < n; i++) {
                wrong += b.out(i) == due.charAt(i) ? 0 : 1;
            }
            Kit.due("its last lines", wrong, 0);
        }
        for (int count : new int[] {0, 1, 16, 17, 128, 129, 1000}) {
            MonitorBoard b = new MonitorBoard();
            Kit.assemble(b, count == 0 ? "" : " DS " + (count - 1) + "\n DB 255\n");
            b.hex();
            b.back();
            b.load(256);
            Kit.line(b, "SAVE 16 H.HEX");
            Kit.due("HEXLOAD of " + count, Kit.line(b, "HEXLOAD H"), "\r\nA>");
            Kit.due("STAT", Kit.line(b, "STAT H.COM"),
                "\r\nH        COM " + (count + 127) / 128 + " " + (count + 1023) / 1024 + "k\r\nA>");
            Kit.due("the last byte", b.memory(255 + count), count == 0 ? 0 : 255);
            Kit.due("behind it", b.memory(256 + count), 0);
        }
    }
}
