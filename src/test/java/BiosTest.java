/** Promises 6 to 8 as far as they are the BIOS's. */
public final class BiosTest {
    public static void main(String[] args) {
        boots();
        keys();
        drives();
        sectors();
        records();
        Kit.finish();
    }

    /** Entry k with BC; back at 300. */
    private static int bios(MonitorBoard b, int k, int bc) {
        int at = 60416 + 3 * k;
        Kit.put(b, 256, 0x31, 0, 0x40, 0x01, bc & 255, bc >> 8, 0xCD, at & 255, at >> 8, 0x76);
        b.jump(256);
        return b.run(10000);
    }

    private static int hl(MonitorBoard b) {
        return b.register(4) << 8 | b.register(5);
    }

    private static void boots() {
        MonitorBoard b = new MonitorBoard();
        Kit.line(b, "B:");
        Kit.line(b, "USER 2");
        Kit.put(b, 5000, 77);
        Kit.put(b, 0, 1, 2, 3, 4, 5, 6, 7, 8);
        Kit.type(b, "");
        long before = b.states();
        Kit.due("warm", bios(b, 1, 0), 1);
        Kit.due("fifty states", b.states() - before, 10 + 10 + 17 + 50);
        Kit.due("told", Kit.told(b), "\r\nB2>");
        Kit.due("pc", b.register(9), 60419);
        Kit.due("memory stays", b.memory(5000), 77);
        Kit.due("3 stays", b.memory(3), 4);
        Kit.due("the jumps are back", b.memory(5), 0xC3);
        Kit.due("the jumps are back", Kit.word(b, 1), 60419);
        Kit.due("registers stay", b.register(8), 0x3FFE);
        Kit.due("cold", bios(b, 0, 0), 1);
        Kit.due("told", Kit.told(b), "\r\n62K\r\nA>");
        Kit.due("memory is 0", b.memory(5000), 0);
        Kit.due("SP is 0", b.register(8), 0);
        Kit.due("user", b.register(11), 0);
        Kit.type(b, "XY");
        bios(b, 0, 0);
        Kit.due("keys are gone", b.keys(), 0);
        for (int at : new int[] {60416 + 51, 60417, 60420, 60935}) {
            Kit.put(b, at, 0x3C, 0x76);
            b.jump(at);
            b.run(100);
            Kit.due("no entry at " + at, b.register(9), at + 2);
        }
    }

    private static void keys() {
        MonitorBoard b = new MonitorBoard();
        bios(b, 2, 0);
        Kit.due("none waits", b.register(7), 0);
        Kit.due("waits", bios(b, 3, 0), 1);
        Kit.due("at the entry", b.register(9), 60416 + 9);
        long before = b.states();
        Kit.due("again", b.run(100), 1);
        Kit.due("no states", b.states(), before);
        Kit.type(b, "\u00e1b");
        Kit.due("goes on", b.run(100), 2);
        Kit.due("fifty", b.states() - before, 57);
        Kit.due("without 128", b.register(7), 'a');
        bios(b, 2, 0);
        Kit.due("one waits", b.register(7), 255);
        Kit.told(b);
        bios(b, 4, 0x12C1);
        Kit.due("told", Kit.told(b), "A");
        Kit.put(b, 800, 0);
        bios(b, 5, 0x41);
        bios(b, 6, 0x41);
        Kit.due("nothing", Kit.told(b), "");
        bios(b, 7, 0);
        Kit.due("26", b.register(7), 26);
        bios(b, 15, 0);
        Kit.due("0", b.register(7), 0);
        Kit.due("BC stays", b.register(0), 0);
    }

    private static void drives() {
        MonitorBoard b = new MonitorBoard();
        bios(b, 9, 0);
        Kit.due("A", hl(b), 61440);
        bios(b, 9, 1);
        Kit.due("B", hl(b), 61456);
        bios(b, 9, 2);
        Kit.due("no such", hl(b), 0);
        bios(b, 9, 0xFF01);
        Kit.due("C alone counts", hl(b), 61456);
        bios(b, 12, 0x2345);
        Kit.due("data", b.register(12), 0x2345);
        Kit.due("the drive at hand is another thing", b.register(10), 0);
    }

    private static void sectors() {
        MonitorBoard b = new MonitorBoard();
        b.disk(0, 0, 1, 5, 0xE5 ^ 0x31);
        b.disk(1, 76, 26, 127, 0xE5 ^ 0x32);
        bios(b, 12, 0x2000);
        bios(b, 13, 0);
        Kit.due("A is 0", b.register(7), 0);
        Kit.due("track 0, sector 1 of drive 0", b.memory(0x2005), 0x31);
        bios(b, 9, 1);
        bios(b, 10, 76);
        bios(b, 11, 26);
        bios(b, 13, 0);
        Kit.due("the last byte", b.memory(0x207F), 0x32);
        bios(b, 9, 7);
        Kit.put(b, 0x2000, "written");
        bios(b, 14, 0);
        Kit.due("A is 0", b.register(7), 0);
        Kit.due("the drive stayed", b.disk(1, 76, 26, 0, 0), 'w');
        bios(b, 11, 27);
        bios(b, 13, 0);
        Kit.due("no such sector", b.register(7), 1);
        bios(b, 11, 0);
        bios(b, 14, 0);
        Kit.due("no sector 0", b.register(7), 1);
        bios(b, 11, 257);
        bios(b, 14, 0);
        Kit.due("no sector 257", b.register(7), 1);
        bios(b, 11, 26);
        bios(b, 10, 77);
        bios(b, 13, 0);
        Kit.due("no track 77", b.register(7), 1);
        bios(b, 8, 0);
        bios(b, 13, 0);
        Kit.due("home", b.register(7), 0);
        Kit.due("track 0", b.memory(0x2000), 0xE5);
        bios(b, 12, 0xFFFF);
        Kit.put(b, 0xFFFF, 0x41, 0x42);
        bios(b, 14, 0);
        Kit.due("around", b.disk(1, 0, 26, 1, 0), 0x42);
        bios(b, 0, 0);
        bios(b, 13, 0);
        Kit.due("as of a cold boot", b.memory(128 + 5), 0x31);
        bios(b, 9, 1);
        bios(b, 10, 4);
        bios(b, 11, 9);
        b.boot();
        bios(b, 13, 0);
        Kit.due("drive, track and sector too", b.memory(128 + 5), 0x31);
        bios(b, 10, 4);
        bios(b, 11, 9);
        b.disk(0, 4, 9, 5, 0xE5 ^ 0x33);
        bios(b, 1, 0);
        bios(b, 13, 0);
        Kit.due("a warm boot leaves them", b.memory(128 + 5), 0x33);
    }

    private static void records() {
        MonitorBoard b = new MonitorBoard();
        int[] skew = {1, 7, 13, 19, 25, 5, 11, 17, 23, 3, 9, 15, 21, 2, 8, 14, 20, 26, 6, 12, 18, 24, 4, 10, 16, 22};
        for (int r = 0; r < 26; r++) {
            bios(b, 16, r);
            Kit.due("record " + r, hl(b), skew[r]);
        }
        bios(b, 16, 26);
        Kit.due("26", hl(b), 0);
        bios(b, 16, 256);
        Kit.due("256", hl(b), 0);
    }
}
