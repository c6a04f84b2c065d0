/** The boundary cases of Part I: what goes around, flags at their edges, ports, HLT, and where the monitor stands. */
public final class ProcessorEdgesTest {
    public static void main(String[] args) {
        codesAround();
        wordsAround();
        stackAround();
        pairsAround();
        stepsAtEdges();
        sumsAtEdges();
        everyDecimal();
        flagsThatStand();
        portsWithoutKey();
        haltAtEdges();
        entriesOfTheMonitor();
        twins();
        Kit.finish();
    }

    private static void runAt(MonitorBoard b, int at, int... codes) {
        Kit.put(b, at, codes);
        b.jump(at);
        Kit.due("stops", b.run(10000), 2);
    }

    private static int pair(MonitorBoard b, int high) {
        return b.register(high) << 8 | b.register(high + 1);
    }

    /** Addresses are modulo 65536: a code's own bytes, and the next code. */
    private static void codesAround() {
        MonitorBoard b = new MonitorBoard();
        runAt(b, 65534, 0x01, 0x34, 0x12, 0x76);
        Kit.due("LXI over the end", pair(b, 0), 0x1234);
        Kit.due("PC", b.register(9), 2);
        runAt(b, 65535, 0x3E, 0x77, 0x76);
        Kit.due("MVI over the end", b.register(7), 0x77);
        Kit.put(b, 0x3000, 0x76);
        runAt(b, 65533, 0xC3, 0x00, 0x30);
        Kit.due("JMP up to the end", b.register(9), 0x3001);
        Kit.put(b, 0x2000, 0x31, 0x00, 0x28, 0xC3, 0xFD, 0xFF);
        Kit.put(b, 65533, 0xCD, 0x00, 0x30);
        b.jump(0x2000);
        b.run(100);
        Kit.due("CALL's return is 0", Kit.word(b, 0x27FE), 0);
        Kit.put(b, 65535, 0xF7);
        Kit.put(b, 0x30, 0x76);
        Kit.put(b, 0x2000, 0x31, 0x00, 0x28, 0xC3, 0xFF, 0xFF);
        b.jump(0x2000);
        b.run(100);
        Kit.due("RST's return is 0", Kit.word(b, 0x27FE), 0);
        Kit.due("RST 6", b.register(9), 0x31);
        Kit.put(b, 65534, 0xC2, 0x00, 0x30, 0x76);
        Kit.put(b, 0x2000, 0xAF, 0xC3, 0xFE, 0xFF);
        b.jump(0x2000);
        b.run(100);
        Kit.due("JNZ that does not go, around", b.register(9), 2);
    }

    /** WORDS are two bytes, the second one of 65535 at 0. */
    private static void wordsAround() {
        MonitorBoard b = new MonitorBoard();
        runAt(b, 256, 0x21, 0x34, 0x12, 0x22, 0xFF, 0xFF, 0x76);
        Kit.due("SHLD low", b.memory(65535), 0x34);
        Kit.due("SHLD high", b.memory(0), 0x12);
        runAt(b, 256, 0x21, 0, 0, 0x2A, 0xFF, 0xFF, 0x76);
        Kit.due("LHLD", pair(b, 4), 0x1234);
        runAt(b, 256, 0x3A, 0xFF, 0xFF, 0x76);
        Kit.due("LDA 65535", b.register(7), 0x34);
        runAt(b, 256, 0x21, 0xFF, 0xFF, 0x36, 0x99, 0x23, 0x36, 0x88, 0x76);
        Kit.due("M at 65535", b.memory(65535), 0x99);
        Kit.due("M at 0", b.memory(0), 0x88);
    }

    /** PUSH, POP, XTHL, CALL and RET with SP at the ends of MEMORY. */
    private static void stackAround() {
        MonitorBoard b = new MonitorBoard();
        runAt(b, 256, 0x31, 0, 0, 0x01, 0x34, 0x12, 0xC5, 0x76);
        Kit.due("PUSH at 0", b.register(8), 65534);
        Kit.due("low", b.memory(65534), 0x34);
        Kit.due("high", b.memory(65535), 0x12);
        runAt(b, 256, 0xD1, 0x76);
        Kit.due("POP at 65534", b.register(8), 0);
        Kit.due("DE", pair(b, 2), 0x1234);
        runAt(b, 256, 0x31, 1, 0, 0xC5, 0x76);
        Kit.due("PUSH at 1", b.register(8), 65535);
        Kit.due("low", b.memory(65535), 0x34);
        Kit.due("high", b.memory(0), 0x12);
        runAt(b, 256, 0x21, 0x78, 0x56, 0xE3, 0x76);
        Kit.due("XTHL at 65535", pair(b, 4), 0x1234);
        Kit.due("its word", b.memory(65535) | b.memory(0) << 8, 0x5678);
        Kit.due("SP stays", b.register(8), 65535);
        runAt(b, 256, 0xE1, 0x76);
        Kit.due("POP at 65535", b.register(8), 1);
        Kit.due("HL", pair(b, 4), 0x5678);
        Kit.put(b, 0x2000, 0xC9);
        runAt(b, 256, 0x31, 1, 0, 0xCD, 0x00, 0x20, 0x76);
        Kit.due("CALL and RET over the end", b.register(9), 263);
        Kit.due("SP", b.register(8), 1);
    }

    /** Sums of words are modulo 65536; of DAD's flags CY alone. */
    private static void pairsAround() {
        int[][] sums = {{0xFFFF, 1, 0, 1}, {0xFFFF, 0, 0xFFFF, 0}, {0xFFFF, 0xFFFF, 0xFFFE, 1}, {0x8000, 0x8000, 0, 1},
            {0x7FFF, 0x8000, 0xFFFF, 0}, {0, 0, 0, 0}};
        for (int[] s : sums) {
            MonitorBoard b = new MonitorBoard();
            runAt(b, 256, 0x37, 0x21, s[0] & 255, s[0] >> 8, 0x11, s[1] & 255, s[1] >> 8, 0x19, 0x76);
            Kit.due("DAD", pair(b, 4), s[2]);
            Kit.due("flags", b.register(6), 2 | s[3]);
        }
        MonitorBoard b = new MonitorBoard();
        runAt(b, 256, 0x31, 0xFF, 0xFF, 0x33, 0x76);
        Kit.due("INX SP", b.register(8), 0);
        runAt(b, 256, 0x31, 0, 0, 0x3B, 0x76);
        Kit.due("DCX SP", b.register(8), 65535);
        runAt(b, 256, 0x01, 0xFF, 0x00, 0x03, 0x11, 0x00, 0x01, 0x1B, 0x76);
        Kit.due("INX B over the byte", pair(b, 0), 0x100);
        Kit.due("DCX D under the byte", pair(b, 2), 0xFF);
    }

    /** INR 1 of AC if the lower half becomes 0, DCR 0 if it becomes 15; CY stays. */
    private static void stepsAtEdges() {
        int[][] due = {{0x3C, 0xFF, 0, 0x56}, {0x3C, 0x0F, 0x10, 0x12}, {0x3C, 0x7F, 0x80, 0x92}, {0x3C, 0xFE, 0xFF, 0x86},
            {0x3C, 0x00, 0x01, 0x02}, {0x3D, 0x00, 0xFF, 0x86}, {0x3D, 0x10, 0x0F, 0x06}, {0x3D, 0x01, 0x00, 0x56},
            {0x3D, 0x80, 0x7F, 0x02}, {0x3D, 0xFF, 0xFE, 0x92}};
        for (int[] d : due) {
            for (int carry = 0; carry < 2; carry++) {
                MonitorBoard b = new MonitorBoard();
                runAt(b, 256, 0xAF, 0x3E, d[1], 0x37, carry == 1 ? 0 : 0x3F, d[0], 0x76);
                Kit.due("code " + d[0] + " of " + d[1], b.register(7), d[2]);
                Kit.due("its flags", b.register(6), d[3] | carry);
            }
        }
    }

    /** A carry or a borrow that the CY ahead of it alone makes. */
    private static void sumsAtEdges() {
        int[][] due = {
            {0xCE, 0xFF, 0x00, 1, 0x00, 0x57}, {0xCE, 0x0F, 0x00, 1, 0x10, 0x12}, {0xCE, 0xFF, 0xFF, 1, 0xFF, 0x97},
            {0xCE, 0xFF, 0xFF, 0, 0xFE, 0x93}, {0xC6, 0x80, 0x80, 1, 0x00, 0x47}, {0xC6, 0x00, 0x00, 1, 0x00, 0x46},
            {0xDE, 0x00, 0x00, 1, 0xFF, 0x87}, {0xDE, 0x00, 0xFF, 1, 0x00, 0x47}, {0xDE, 0x10, 0x0F, 1, 0x00, 0x46},
            {0xDE, 0xFF, 0xFF, 1, 0xFF, 0x87}, {0xD6, 0x00, 0x00, 1, 0x00, 0x56}, {0xD6, 0x00, 0x01, 0, 0xFF, 0x87},
            {0xFE, 0x05, 0x05, 1, 0x05, 0x56}, {0xFE, 0x05, 0x06, 0, 0x05, 0x87}, {0xE6, 0xF7, 0xF7, 1, 0xF7, 0x82},
            {0xE6, 0x08, 0x00, 1, 0x00, 0x56}, {0xE6, 0x00, 0x08, 1, 0x00, 0x56}, {0xEE, 0xFF, 0xFF, 1, 0x00, 0x46},
            {0xF6, 0x08, 0x80, 1, 0x88, 0x86}};
        for (int[] d : due) {
            MonitorBoard b = new MonitorBoard();
            runAt(b, 256, 0x3E, d[1], 0x37, d[3] == 1 ? 0 : 0x3F, d[0], d[2], 0x76);
            Kit.due("code " + d[0] + " of " + d[1] + " and " + d[2], b.register(7), d[4]);
            Kit.due("its flags", b.register(6), d[5]);
        }
    }

    /** DAA of each byte with each AC and CY. */
    private static void everyDecimal() {
        for (int flags : new int[] {0, 1, 16, 17}) {
            for (int from = 0; from < 256; from += 64) {
                MonitorBoard b = new MonitorBoard();
                Kit.runProgram(b, " LXI SP,3000H\n LXI H,4000H+2*" + from + "\n MVI B," + from + "\nL: MVI C," + flags
                    + "\n PUSH B\n POP PSW\n DAA\n PUSH PSW\n POP D\n MOV M,E\n INX H\n MOV M,D\n INX H\n INR B\n MOV A,B\n CPI "
                    + (from + 64) % 256 + "\n JNZ L\n HLT\n");
                for (int a = from; a < from + 64; a++) {
                    int low = a & 15;
                    int first = low > 9 || flags >= 16 ? low + 6 : low;
                    boolean more = a > 153 || flags % 2 == 1;
                    int value = a - low + first + (more ? 96 : 0) & 255;
                    int ones = Integer.bitCount(value);
                    int due = (value & 128) + (value == 0 ? 64 : 0) + (first > 15 ? 16 : 0) + (ones % 2 == 0 ? 4 : 0) + 2 + (more ? 1 : 0);
                    Kit.due("DAA of " + a + " with " + flags, Kit.word(b, 0x4000 + 2 * a), value << 8 | due);
                }
            }
        }
    }

    /** In PSW 2 is always 1, 8 and 32 are 0. */
    private static void flagsThatStand() {
        for (int low : new int[] {0, 0xFF, 0x28, 0x02, 0xD5, 0x2A}) {
            MonitorBoard b = new MonitorBoard();
            runAt(b, 256, 0x31, 0, 0x30, 0x01, low, 0x5A, 0xC5, 0xF1, 0xF5, 0xD1, 0x76);
            Kit.due("flags of " + low, b.register(6), low & 0xD5 | 2);
            Kit.due("pushed", pair(b, 2), 0x5A00 | low & 0xD5 | 2);
        }
    }

    /** IN 1 is 0 without a key, IN 0 then 0; other ports are 255, and nothing. */
    private static void portsWithoutKey() {
        MonitorBoard b = new MonitorBoard();
        Kit.told(b);
        for (int port : new int[] {2, 3, 127, 128, 255}) {
            runAt(b, 256, 0x3E, 0x41, 0xD3, port, 0xDB, port, 0x76);
            Kit.due("IN of " + port, b.register(7), 255);
        }
        runAt(b, 256, 0x3E, 0x41, 0xD3, 0, 0x76);
        Kit.due("nothing told", b.console(), 0);
        runAt(b, 256, 0x3E, 9, 0xDB, 1, 0x47, 0x3E, 9, 0xDB, 0, 0x76);
        Kit.due("no key", b.register(0), 0);
        Kit.due("none waits", b.register(7), 0);
        Kit.tape(b, Kit.bytes(0));
        b.keys();
        runAt(b, 256, 0xDB, 0, 0x47, 0xDB, 1, 0x4F, 0xDB, 0, 0x76);
        Kit.due("a key 0 waits", b.register(0), 255);
        Kit.due("it", b.register(1), 0);
        Kit.due("the last one is gone", b.register(7), 0);
    }

    /** At HLT the board STOPS, PC behind it; for good. */
    private static void haltAtEdges() {
        MonitorBoard b = new MonitorBoard();
        runAt(b, 65535, 0x76);
        Kit.due("behind 65535", b.register(9), 0);
        long states = b.states();
        Kit.due("seven", states, 7);
        for (int i = 0; i < 3; i++) {
            Kit.due("for good", b.run(200000), 2);
        }
        Kit.due("no states", b.states(), states);
        Kit.put(b, 0, 0x3C);
        Kit.due("not by load", b.run(10), 2);
        Kit.due("A", b.register(7), 0);
        b.jump(0);
        Kit.due("until jump", b.run(5), 0);
        Kit.due("A", b.register(7), 1);
        MonitorBoard c = new MonitorBoard();
        Kit.put(c, 256, 0x00, 0x76);
        c.jump(256);
        Kit.due("used ahead of it", c.run(4), 0);
        Kit.due("it began", c.run(1), 2);
    }

    /** 60416 + 3 k, k 0 .. 16, and 60934: there, and neither ahead nor behind. */
    private static void entriesOfTheMonitor() {
        for (int at : new int[] {60415, 60417, 60418, 60463, 60465, 60466, 60467, 60470, 60931, 60933, 60935, 60937}) {
            MonitorBoard b = new MonitorBoard();
            Kit.put(b, at, 0x3C);
            b.jump(at);
            b.run(1);
            Kit.due("a code at " + at, b.states(), 5);
            Kit.due("A", b.register(7), 1);
        }
        for (int at : new int[] {60422, 60428, 60431, 60434, 60437, 60440, 60443, 60446, 60449, 60452, 60455, 60458, 60461, 60464, 60934}) {
            MonitorBoard b = new MonitorBoard();
            Kit.put(b, at, 0x76);
            Kit.put(b, 0x3000, 0x45, 0x23);
            Kit.put(b, 256, 0x31, 0, 0x30, 0x01, 12, 0, 0xC3, at & 255, at >> 8);
            b.jump(256);
            Kit.due("goes on", b.run(31), 0);
            Kit.due("the monitor is at " + at, b.states(), 30 + 50);
            Kit.due("as a RET", b.register(9), 0x2345);
            Kit.due("SP", b.register(8), 0x3002);
        }
    }

    /** Codes that are others' twins do what those do. */
    private static void twins() {
        for (int code : new int[] {0x08, 0x10, 0x18, 0x20, 0x28, 0x30, 0x38}) {
            MonitorBoard b = new MonitorBoard();
            runAt(b, 256, code, 0x76);
            Kit.due("nothing", b.states(), 11);
            Kit.due("flags", b.register(6), 2);
        }
        for (int code : new int[] {0xDD, 0xED, 0xFD}) {
            MonitorBoard b = new MonitorBoard();
            Kit.put(b, 0x2000, 0xD9);
            runAt(b, 256, 0x31, 0, 0x30, code, 0x00, 0x20, 0x76);
            Kit.due("CALL and RET", b.states(), 10 + 17 + 10 + 7);
            Kit.due("PC", b.register(9), 263);
        }
        MonitorBoard b = new MonitorBoard();
        Kit.put(b, 0x2000, 0x76);
        runAt(b, 256, 0xCB, 0x00, 0x20);
        Kit.due("JMP", b.register(9), 0x2001);
    }
}
