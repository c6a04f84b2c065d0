/** Promise 6: calls whose data lie over their FCB, and what bounds names, EXTENTS and BLOCKS of the calls (Part II, IV). */
public final class OverlapTest {
    private static final int FCB = 0x3000;
    private static final int DATA = 0x3100;

    public static void main(String[] args) {
        questionWithHighBit();
        readOver();
        readNextExtentOver();
        readAtPlaceOver();
        writeOver();
        writeNextExtentOver();
        writeAtPlaceOver();
        searchOver();
        stackUnderData();
        behindLastExtent();
        directoryBlocks();
        Kit.finish();
    }

    private static int file(MonitorBoard b, int number) {
        return Kit.result(b, number, FCB);
    }

    private static int dir(MonitorBoard b, int entry, int k) {
        int sector = 1 + 6 * (entry / 4) % 26 + (entry / 4 >= 13 ? 1 : 0);
        return b.disk(0, 2, sector, entry % 4 * 32 + k, 0);
    }

    /** Byte k of record r of a block of drive A. */
    private static int block(MonitorBoard b, int block, int r, int k) {
        int n = block * 8 + r;
        int of = n % 26;
        return b.disk(0, 2 + n / 26, 1 + (6 * of + of / 13) % 26, k, 0);
    }

    private static void make(MonitorBoard b, String name, int extent) {
        Kit.fcb(b, FCB, 0, name, "");
        Kit.put(b, FCB + 12, extent);
        file(b, 22);
    }

    private static void dataAt(MonitorBoard b, int at) {
        Kit.result(b, 26, at);
    }

    private static void fill(MonitorBoard b, int at, int value) {
        byte[] bytes = new byte[128];
        java.util.Arrays.fill(bytes, (byte) value);
        Kit.tape(b, bytes);
        b.load(at);
    }

    private static void questionWithHighBit() {
        MonitorBoard b = new MonitorBoard();
        dataAt(b, DATA);
        make(b, "AXE", 0);
        make(b, "AYE", 0);
        make(b, "B", 0);
        Kit.fcb(b, FCB, 0, "A\u00bfE", "");
        Kit.due("17 of 191", file(b, 17), 0);
        Kit.due("18 of 191", file(b, 18), 1);
        Kit.due("18 of 191", file(b, 18), 255);
        Kit.due("15 has no ?", file(b, 15), 255);
        Kit.due("23 has no ?", file(b, 23), 255);
        Kit.put(b, FCB + 12, 0xBF);
        Kit.due("EX 191 is EXTENT 31", file(b, 17), 255);
        Kit.put(b, FCB + 12, 0);
        Kit.due("19 of 191", file(b, 19), 0);
        Kit.due("free", dir(b, 0, 0), 0xE5);
        Kit.due("free", dir(b, 1, 0), 0xE5);
        Kit.due("not free", dir(b, 2, 0), 0);
        Kit.put(b, FCB + 1, "?");
        Kit.due("E is no blank", file(b, 19), 255);
        b.disk(0, 2, 1, 64 + 9, 0x80);
        Kit.fcb(b, FCB, 0, "\u00bf", "");
        Kit.told(b);
        Kit.call(b, 19, FCB);
        Kit.due("a file that 191 meets may not be written", Kit.told(b), "\r\nBdos Err On A: File R/O\r\nA>");
        Kit.put(b, FCB, 0xBF);
        Kit.call(b, 17, FCB);
        Kit.due("a drive 191 is no ?", Kit.told(b), "\r\nBdos Err On \u00ff: Select\r\nA>");
    }

    private static void readOver() {
        MonitorBoard b = new MonitorBoard();
        dataAt(b, DATA);
        make(b, "R", 0);
        Kit.put(b, DATA + 12, 9);
        Kit.put(b, DATA + 32, 255, 70, 71, 72);
        file(b, 21);
        Kit.put(b, FCB + 32, 0);
        dataAt(b, FCB);
        Kit.due("20", file(b, 20), 0);
        Kit.due("CR of the record, one more, a byte", b.memory(FCB + 32), 0);
        Kit.due("EX of the record", b.memory(FCB + 12), 9);
        Kit.due("R of the record", b.memory(FCB + 33), 70);
        MonitorBoard c = new MonitorBoard();
        dataAt(c, 0x2F80);
        Kit.fcb(c, 0x2FFF, 0, "Q", "");
        Kit.put(c, 0x2FFF + 15, 1, 7);
        Kit.due("one byte over", Kit.result(c, 20, 0x2FFF), 0);
        Kit.due("the drive", c.memory(0x2FFF), 0xE5);
        Kit.due("the name", c.memory(0x3000), 'Q');
        Kit.due("CR", c.memory(0x2FFF + 32), 1);
    }

    private static void readNextExtentOver() {
        MonitorBoard b = new MonitorBoard();
        dataAt(b, DATA);
        make(b, "N", 1);
        fill(b, DATA, 'n');
        file(b, 21);
        file(b, 16);
        Kit.fcb(b, FCB, 0, "N", "");
        Kit.put(b, FCB + 32, 128);
        dataAt(b, FCB + 20);
        Kit.due("20", file(b, 20), 0);
        Kit.due("EX stands ahead of the data", b.memory(FCB + 12), 1);
        Kit.due("the first BLOCK too", b.memory(FCB + 16), 2);
        Kit.due("data over the others", b.memory(FCB + 20), 'n');
        Kit.due("CR is of the data, one more", b.memory(FCB + 32), 'n' + 1);
    }

    private static void readAtPlaceOver() {
        MonitorBoard b = new MonitorBoard();
        dataAt(b, DATA);
        make(b, "P", 0);
        fill(b, DATA, 'p');
        file(b, 21);
        file(b, 16);
        dataAt(b, FCB);
        Kit.put(b, FCB + 32, 5);
        Kit.due("33", file(b, 33), 0);
        Kit.due("CR is of the data, and does not grow", b.memory(FCB + 32), 'p');
        Kit.due("EX is of the data", b.memory(FCB + 12), 'p');
        Kit.fcb(b, FCB, 0, "P", "");
        Kit.put(b, FCB + 12, 3);
        Kit.put(b, FCB + 32, 5);
        dataAt(b, FCB + 32);
        Kit.due("33 of another EXTENT", file(b, 33), 0);
        Kit.due("EX", b.memory(FCB + 12), 0);
        Kit.due("RC", b.memory(FCB + 15), 1);
        Kit.due("CR", b.memory(FCB + 32), 'p');
    }

    private static void writeOver() {
        MonitorBoard b = new MonitorBoard();
        make(b, "W", 0);
        Kit.put(b, FCB + 32, 9);
        dataAt(b, FCB);
        Kit.due("21", file(b, 21), 0);
        Kit.due("the new BLOCK is in the record", block(b, 2, 1, 17), 2);
        Kit.due("CR ahead of its growing", block(b, 2, 1, 32), 9);
        Kit.due("RC ahead of its growing", block(b, 2, 1, 15), 0);
        Kit.due("RC", b.memory(FCB + 15), 10);
        Kit.due("CR", b.memory(FCB + 32), 10);
        Kit.due("the name", block(b, 2, 1, 1), 'W');
    }

    private static void writeNextExtentOver() {
        MonitorBoard b = new MonitorBoard();
        make(b, "V", 0);
        Kit.put(b, FCB + 15, 128);
        Kit.put(b, FCB + 16, 100);
        Kit.put(b, FCB + 32, 128);
        dataAt(b, FCB);
        Kit.due("21", file(b, 21), 0);
        Kit.due("the old one is CLOSED", dir(b, 0, 15), 128);
        Kit.due("EX of the next one is in the record", block(b, 2, 0, 12), 1);
        Kit.due("RC of the next one", block(b, 2, 0, 15), 0);
        Kit.due("its BLOCK", block(b, 2, 0, 16), 2);
        Kit.due("CR 0", block(b, 2, 0, 32), 0);
        Kit.due("RC", b.memory(FCB + 15), 1);
        Kit.due("CR", b.memory(FCB + 32), 1);
    }

    private static void writeAtPlaceOver() {
        for (int number = 34; number <= 40; number += 6) {
            MonitorBoard b = new MonitorBoard();
            make(b, "U", 0);
            Kit.put(b, FCB + 15, 3);
            Kit.put(b, FCB + 33, 2, 1, 0);
            dataAt(b, FCB);
            Kit.due("call " + number, file(b, number), 0);
            Kit.due("EX is in the record", block(b, 2, 2, 12), 2);
            Kit.due("RC", block(b, 2, 2, 15), 0);
            Kit.due("the BLOCK", block(b, 2, 2, 16), 2);
            Kit.due("CR", block(b, 2, 2, 32), 2);
            Kit.due("R", block(b, 2, 2, 34), 1);
            Kit.due("the old one is CLOSED", dir(b, 0, 15), 3);
            Kit.due("RC grows", b.memory(FCB + 15), 3);
            Kit.due("CR stays", b.memory(FCB + 32), 2);
            Kit.due("the record ahead", block(b, 2, 1, 0), number == 40 ? 0 : 0xE5);
        }
    }

    private static void searchOver() {
        MonitorBoard b = new MonitorBoard();
        make(b, "S1", 0);
        make(b, "S2", 0);
        Kit.fcb(b, FCB, 0, "S?", "");
        dataAt(b, FCB);
        Kit.due("17", file(b, 17), 0);
        Kit.due("the record is there", b.memory(FCB + 2), '1');
        Kit.due("18 as 17 had it", file(b, 18), 1);
    }

    /** A RET goes where the bytes that came to the stack say. */
    private static void stackUnderData() {
        MonitorBoard b = new MonitorBoard();
        make(b, "K", 0);
        fill(b, DATA, 0x22);
        dataAt(b, DATA);
        file(b, 21);
        Kit.put(b, FCB + 32, 0);
        dataAt(b, 0x3FC0);
        Kit.put(b, 0x2222, 0x76);
        Kit.due("20", Kit.call(b, 20, FCB), 2);
        Kit.due("PC", b.register(9), 0x2223);
    }

    private static void behindLastExtent() {
        for (int extent : new int[] {31, 32, 254, 255}) {
            MonitorBoard b = new MonitorBoard();
            make(b, "L", 0);
            b.disk(0, 2, 1, 12, extent + 1);
            Kit.put(b, FCB + 12, extent);
            Kit.put(b, FCB + 32, 128);
            Kit.due("20 behind " + extent, file(b, 20), 1);
            Kit.due("EX stays", b.memory(FCB + 12), extent);
            Kit.due("CR stays", b.memory(FCB + 32), 128);
            Kit.due("21 behind " + extent, file(b, 21), 1);
            Kit.due("EX stays", b.memory(FCB + 12), extent);
        }
        MonitorBoard b = new MonitorBoard();
        make(b, "L", 31);
        Kit.put(b, FCB + 15, 1, 50);
        file(b, 16);
        Kit.put(b, FCB + 12, 30);
        Kit.put(b, FCB + 32, 128);
        Kit.due("31 is there", file(b, 20), 0);
        Kit.due("EX", b.memory(FCB + 12), 31);
    }

    private static void directoryBlocks() {
        MonitorBoard b = new MonitorBoard();
        make(b, "D", 0);
        Kit.put(b, FCB + 15, 1, 1, 2, 242, 243, 0);
        file(b, 16);
        Kit.result(b, 37, 1);
        Kit.result(b, 27, 0);
        Kit.due("0, 1, 2", b.memory(61472), 0xE0);
        Kit.due("242", b.memory(61472 + 30), 0x20);
        Kit.due("19", file(b, 19), 0);
        Kit.result(b, 27, 0);
        Kit.due("0 and 1 stay in USE", b.memory(61472), 0xC0);
        Kit.due("242 not", b.memory(61472 + 30), 0);
        make(b, "E", 0);
        dataAt(b, DATA);
        Kit.due("21", file(b, 21), 0);
        Kit.due("the least that is not in USE", b.memory(FCB + 16), 2);
        Kit.call(b, 0, 0);
        Kit.due("STAT", Kit.line(b, "STAT"), "\r\nA: 241k\r\nA>");
    }
}
