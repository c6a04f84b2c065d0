/** Promises 1 to 5, 9 to 13, 15: a new board, the tape, keys, memory and the console. */
public final class TapeTest {
    public static void main(String[] args) {
        newBoard();
        feed();
        end();
        keys();
        load();
        console();
        back();
        boot();
        Kit.finish();
    }

    private static void newBoard() {
        MonitorBoard b = new MonitorBoard();
        Kit.due("told", Kit.told(b), "\r\n62K\r\nA>");
        Kit.due("states", b.states(), 0);
        Kit.due("pc", b.register(9), 60419);
        for (int i = 0; i < 9; i++) {
            Kit.due("register " + i, b.register(i), i == 6 ? 2 : 0);
        }
        Kit.due("drive", b.register(10), 0);
        Kit.due("user", b.register(11), 0);
        Kit.due("data", b.register(12), 128);
        Kit.due("register 13", b.register(13), -1);
        Kit.due("register -1", b.register(-1), -1);
        Kit.due("register least", b.register(Integer.MIN_VALUE), -1);
        int[] low = {0xC3, 0x03, 0xEC, 0, 0, 0xC3, 0x06, 0xEE, 0};
        for (int i = 0; i < low.length; i++) {
            Kit.due("memory " + i, b.memory(i), low[i]);
        }
        Kit.due("memory -1", b.memory(-1), -1);
        Kit.due("memory 65535", b.memory(65535), 0);
        Kit.due("memory 65536", b.memory(65536), -1);
        for (int d = 0; d < 2; d++) {
            Kit.due("disk", b.disk(d, 0, 1, 0, 0), 0xE5);
            Kit.due("disk", b.disk(d, 76, 26, 127, 0), 0xE5);
        }
        Kit.due("run waits", b.run(1), 1);
        Kit.due("no out", new MonitorBoard().out(0), -1);
    }

    private static void feed() {
        MonitorBoard b = new MonitorBoard();
        Kit.due("feed", b.feed(0x01020304, 0x80FF007F, -1, 0, 0x61626364), true);
        b.load(1000);
        int[] want = {1, 2, 3, 4, 0x80, 0xFF, 0, 0x7F, 255, 255, 255, 255, 0, 0, 0, 0, 0x61, 0x62, 0x63, 0x64};
        for (int i = 0; i < 20; i++) {
            Kit.due("byte " + i, b.memory(1000 + i), want[i]);
        }
        for (int i = 0; i < 200; i++) {
            Kit.due("feed " + i, b.feed(i, i, i, i, i), true);
        }
        Kit.due("feed beyond", b.feed(7, 7, 7, 7, 7), false);
        Kit.due("still 4000", b.end(4000), true);
        Kit.due("end 3981", b.end(3981), true);
        Kit.due("feed beyond by one", b.feed(7, 7, 7, 7, 7), false);
        Kit.due("end 3980", b.end(3980), true);
        Kit.due("feed to the brim", b.feed(7, 7, 7, 7, 7), true);
    }

    private static void end() {
        MonitorBoard b = new MonitorBoard();
        Kit.due("end 0", b.end(0), true);
        Kit.due("end 1", b.end(1), false);
        Kit.due("end -1", b.end(-1), false);
        b.feed(0x41424344, 0, 0, 0, 0);
        Kit.due("end 21", b.end(21), false);
        Kit.due("end 20", b.end(20), true);
        Kit.due("end 3", b.end(3), true);
        Kit.due("end 4", b.end(4), false);
        b.load(500);
        Kit.due("the third", b.memory(502), 0x43);
        Kit.due("the fourth", b.memory(503), 0);
        Kit.due("empty then", b.end(1), false);
    }

    private static void keys() {
        MonitorBoard b = new MonitorBoard();
        Kit.due("none", b.keys(), 0);
        Kit.tape(b, "AB");
        Kit.due("two", b.keys(), 2);
        Kit.due("empty then", b.end(1), false);
        Kit.tape(b, "C");
        Kit.due("behind", b.keys(), 3);
        Kit.tape(b, new byte[1998]);
        Kit.due("too many", b.keys(), -1);
        Kit.due("the tape stays", b.end(1998), true);
        Kit.due("1997 are not", b.end(1997), true);
        Kit.due("2000", b.keys(), 2000);
        Kit.due("no key more", b.feed(0, 0, 0, 0, 0), true);
        b.end(1);
        Kit.due("one too many", b.keys(), -1);
        Kit.runProgram(b, " IN 1\n MOV B,A\n IN 1\n MOV C,A\n IN 1\n MOV D,A\n IN 0\n MOV E,A\n HLT\n");
        Kit.due("first", b.register(0), 'A');
        Kit.due("second", b.register(1), 'B');
        Kit.due("third", b.register(2), 'C');
        Kit.due("waits", b.register(3), 255);
        Kit.tape(b, "xyz");
        Kit.due("a ring", b.keys(), 2000);
    }

    private static void load() {
        MonitorBoard b = new MonitorBoard();
        Kit.tape(b, "wrap");
        b.load(65534);
        Kit.due("65534", b.memory(65534), 'w');
        Kit.due("65535", b.memory(65535), 'r');
        Kit.due("0", b.memory(0), 'a');
        Kit.due("1", b.memory(1), 'p');
        Kit.tape(b, "neg");
        b.load(-1);
        Kit.due("-1 is 65535", b.memory(65535), 'n');
        Kit.due("0", b.memory(0), 'e');
        Kit.tape(b, "m");
        b.load(65536 + 300);
        Kit.due("modulo", b.memory(300), 'm');
        b.load(300);
        Kit.due("an empty tape", b.memory(300), 'm');
    }

    private static void console() {
        MonitorBoard b = new MonitorBoard();
        Kit.due("nine", b.console(), 9);
        Kit.due("out -1", b.out(-1), -1);
        Kit.due("out 9", b.out(9), -1);
        Kit.due("out 8", b.out(8), '>');
        Kit.due("nothing since", b.console(), 0);
        Kit.due("out is empty", b.out(0), -1);
        Kit.runProgram(b, " MVI A,200\n OUT 1\n OUT 2\n HLT\n");
        Kit.due("a byte of eight bits", b.console(), 1);
        Kit.due("it", b.out(0), 200);
        Kit.runProgram(b, " LXI H,8003\n MVI B,0\nL: MOV A,L\n OUT 1\n DCX H\n MOV A,H\n ORA L\n JNZ L\n HLT\n");
        Kit.due("at most 8000", b.console(), 8000);
        Kit.due("the earliest are gone", b.out(0), 8000 & 255);
        Kit.due("the last", b.out(7999), 1);
        Kit.due("beyond", b.out(8000), -1);
    }

    private static void back() {
        MonitorBoard b = new MonitorBoard();
        Kit.due("no out", b.back(), 0);
        b.console();
        Kit.tape(b, "gone");
        Kit.due("nine", b.back(), 9);
        Kit.due("out stays", b.out(8), '>');
        Kit.due("the tape has them alone", b.end(10), false);
        b.load(700);
        Kit.due("it", Kit.memory(b, 700, 9), "\r\n62K\r\nA>");
        Kit.due("ds", Kit.assemble(b, " DS 5000\n"), 5000);
        Kit.due("4000 at most", b.back(), 4000);
        Kit.due("4000", b.end(4000), true);
    }

    private static void boot() {
        MonitorBoard b = new MonitorBoard();
        Kit.line(b, "USER 5");
        Kit.line(b, "B:");
        Kit.put(b, 2000, 1, 2, 3);
        Kit.put(b, 3, 9, 9);
        Kit.runProgram(b, " LXI SP,77\n LXI B,258\n LXI D,772\n LXI H,1286\n XRA A\n DCR A\n MVI C,28\n CALL 5\n"
            + " LXI D,700\n MVI C,26\n CALL 5\n HLT\n");
        Kit.due("data", b.register(12), 700);
        long states = b.states();
        Kit.told(b);
        Kit.type(b, "DIR\r");
        b.boot();
        Kit.due("told", Kit.told(b), "\r\n62K\r\nA>");
        Kit.due("states go on", b.states(), states);
        for (int i = 0; i < 9; i++) {
            Kit.due("register " + i, b.register(i), i == 6 ? 2 : 0);
        }
        Kit.due("pc", b.register(9), 60419);
        Kit.due("drive", b.register(10), 0);
        Kit.due("user", b.register(11), 0);
        Kit.due("data", b.register(12), 128);
        Kit.due("memory", b.memory(2001), 0);
        Kit.due("3", b.memory(3), 0);
        Kit.due("4", b.memory(4), 0);
        Kit.due("jumps", b.memory(7), 0xEE);
        Kit.due("keys are gone", b.run(100), 1);
        Kit.due("nothing told", Kit.told(b), "");
        Kit.due("none only read", Kit.result(b, 29, 0), 0);
        Kit.due("logged in", Kit.result(b, 24, 0), 1);
        b.boot();
        Kit.due("not stopped", b.run(10), 1);
    }
}
