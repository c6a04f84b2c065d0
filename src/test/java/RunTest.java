/** Promises 6, 7, 11: run, states and jump. */
public final class RunTest {
    public static void main(String[] args) {
        wrongNumbers();
        untilUsed();
        stops();
        waits();
        commandLine();
        jump();
        Kit.finish();
    }

    private static void wrongNumbers() {
        MonitorBoard b = new MonitorBoard();
        Kit.put(b, 256, 0x3C, 0x76);
        b.jump(256);
        for (int n : new int[] {0, -1, 200001, Integer.MAX_VALUE, Integer.MIN_VALUE}) {
            Kit.due("run " + n, b.run(n), 0);
        }
        Kit.due("nothing done", b.states(), 0);
        Kit.due("one state does one code", b.run(1), 0);
        Kit.due("INR", b.states(), 5);
        Kit.due("then stops", b.run(1), 2);
        Kit.due("12", b.states(), 12);
        for (int n : new int[] {0, -1, 200001}) {
            Kit.due("stopped, run " + n, b.run(n), 2);
        }
    }

    private static void untilUsed() {
        MonitorBoard b = new MonitorBoard();
        Kit.put(b, 256, 0, 0, 0, 0, 0, 0, 0xC3, 0, 1);
        b.jump(256);
        Kit.due("four", b.run(4), 0);
        Kit.due("one code", b.states(), 4);
        Kit.due("five", b.run(5), 0);
        Kit.due("two codes", b.states(), 12);
        Kit.due("many", b.run(200000), 0);
        Kit.due("at least", b.states() >= 200012 && b.states() < 200022, true);
    }

    private static void stops() {
        MonitorBoard b = new MonitorBoard();
        Kit.put(b, 256, 0x76, 0x3C);
        b.jump(256);
        Kit.due("stops", b.run(7), 2);
        Kit.due("behind it", b.register(9), 257);
        Kit.due("for good", b.run(100), 2);
        Kit.due("no state more", b.states(), 7);
        Kit.type(b, "DIR\r");
        Kit.due("keys do not wake it", b.run(100), 2);
        b.jump(257);
        Kit.due("jump does", b.run(1), 0);
        Kit.due("INR", b.register(7), 1);
        b.jump(256);
        b.run(9);
        b.boot();
        Kit.due("boot does", b.run(9), 1);
    }

    private static void waits() {
        MonitorBoard b = new MonitorBoard();
        Kit.program(b, " LXI SP,4000H\n MVI C,1\n CALL 5\n HLT\n");
        b.jump(256);
        Kit.due("waits", b.run(1000), 1);
        Kit.due("at the call", b.register(9), 60934);
        Kit.due("states so far", b.states(), 10 + 7 + 17 + 10);
        Kit.due("waits on", b.run(1000), 1);
        Kit.due("none for that", b.states(), 44);
        Kit.type(b, "k");
        Kit.due("goes on", b.run(50), 0);
        Kit.due("fifty", b.states(), 94);
        Kit.due("A", b.register(7), 'k');
        Kit.due("stops", b.run(50), 2);
        Kit.due("states", b.states(), 101);
    }

    private static void commandLine() {
        MonitorBoard b = new MonitorBoard();
        Kit.put(b, 256, "abcdefg\u001a");
        Kit.line(b, "SAVE 1 T");
        Kit.due("no states", b.states(), 0);
        Kit.told(b);
        Kit.type(b, "TYPE T\rTYPE T\rTYPE T\r");
        Kit.due("behind each line", b.run(7), 0);
        Kit.due("one for each byte", b.states(), 7);
        Kit.due("one line", Kit.told(b), "TYPE T\r\r\nabcdefg\r\nA>");
        Kit.due("two lines", b.run(8), 0);
        Kit.due("14 more", b.states(), 21);
        Kit.due("none is left", b.run(1), 1);
        Kit.line(b, "DUMP T");
        Kit.due("256 of dump", b.states(), 21 + 256);
        Kit.type(b, "DIR\rUSER 2\rDIR\r");
        Kit.due("others use none", b.run(1), 1);
        Kit.due("277", b.states(), 277);
    }

    private static void jump() {
        MonitorBoard b = new MonitorBoard();
        Kit.put(b, 300, 0x3C, 0x76);
        Kit.type(b, "AB");
        b.run(10);
        b.jump(300 + 65536);
        Kit.due("modulo", b.register(9), 300);
        Kit.due("runs", b.run(100), 2);
        b.jump(-1);
        Kit.due("-1", b.register(9), 65535);
        Kit.put(b, 600, 5);
        Kit.put(b, 256, 0x31, 0, 0x40, 0x0E, 10, 0x11, 0x58, 2, 0xCD, 5, 0, 0x76);
        b.jump(256);
        Kit.type(b, "xy");
        Kit.due("call 10 waits", b.run(1000), 1);
        b.jump(256);
        Kit.type(b, "z\r");
        Kit.due("it begins anew", b.run(1000), 2);
        Kit.due("one came", b.memory(601), 1);
        Kit.due("z", b.memory(602), 'z');
        b.boot();
        Kit.told(b);
        b.jump(60419);
        Kit.due("the processor comes to the warm boot", b.run(1), 0);
        Kit.due("told", Kit.told(b), "\r\nA>");
    }
}
