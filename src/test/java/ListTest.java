/** Promises 16, 17, 18: disk, list and hex. */
public final class ListTest {
    public static void main(String[] args) {
        disk();
        list();
        everyCode();
        listAndAssemble();
        hex();
        Kit.finish();
    }

    private static void disk() {
        MonitorBoard b = new MonitorBoard();
        int[][] none = {{-1, 0, 1, 0}, {2, 0, 1, 0}, {0, -1, 1, 0}, {0, 77, 1, 0}, {0, 0, 0, 0}, {0, 0, 27, 0},
            {0, 0, 1, -1}, {0, 0, 1, 128}, {Integer.MAX_VALUE, 0, 1, 0}, {0, Integer.MIN_VALUE, 1, 0},
            {0, 0, Integer.MAX_VALUE, 0}, {0, 0, 1, Integer.MAX_VALUE}};
        for (int[] n : none) {
            Kit.due("no such place", b.disk(n[0], n[1], n[2], n[3], 255), -1);
        }
        Kit.due("xor", b.disk(0, 2, 1, 0, 0x0F), 0xEA);
        Kit.due("the lowest eight bits", b.disk(0, 2, 1, 0, 0xFFFFFF00), 0xEA);
        Kit.due("again", b.disk(0, 2, 1, 0, 0x1FF), 0x15);
        Kit.due("stays", b.disk(0, 2, 1, 0, 0), 0x15);
        Kit.due("another byte", b.disk(0, 2, 1, 1, 0), 0xE5);
        Kit.due("another drive", b.disk(1, 2, 1, 0, 0), 0xE5);
        Kit.line(b, "SAVE 0 ONE.X");
        Kit.line(b, "SAVE 0 TWO.X");
        Kit.due("the second entry of record 0", b.disk(0, 2, 1, 33, 0), 'O');
        Kit.due("the third", b.disk(0, 2, 1, 65, 0), 'T');
        for (int i = 0; i < 3; i++) {
            Kit.line(b, "SAVE 0 F" + i);
        }
        Kit.due("record 1 is sector 7", b.disk(0, 2, 7, 33, 0), 'F');
        b.boot();
        Kit.due("a boot leaves disks", b.disk(0, 2, 7, 33, 0), 'F');
    }

    private static String listed(MonitorBoard b, int at) {
        return Kit.out(b, b.list(at));
    }

    private static void list() {
        MonitorBoard b = new MonitorBoard();
        Kit.put(b, 1000, 0x3E, 0xA5, 0x06, 0x5A, 0x21, 0x34, 0x12, 0x31, 0xCD, 0xAB, 0xF5, 0xC1, 0x02, 0x1A, 0xFF);
        Kit.due("MVI", listed(b, 1000), "MVI A,0A5H");
        Kit.due("how many", b.list(1000), 10);
        Kit.due("MVI", listed(b, 1002), "MVI B,5AH");
        Kit.due("LXI", listed(b, 1004), "LXI H,1234H");
        Kit.due("LXI", listed(b, 1007), "LXI SP,0ABCDH");
        Kit.due("PUSH", listed(b, 1010), "PUSH PSW");
        Kit.due("POP", listed(b, 1011), "POP B");
        Kit.due("STAX", listed(b, 1012), "STAX B");
        Kit.due("LDAX", listed(b, 1013), "LDAX D");
        Kit.due("RST", listed(b, 1014), "RST 7");
        Kit.due("modulo", listed(b, 1000 + 65536), "MVI A,0A5H");
        Kit.due("below 0", listed(b, 1000 - 65536), "MVI A,0A5H");
        Kit.put(b, 65535, 0x3A, 0x11, 0x22);
        Kit.due("around", listed(b, 65535), "LDA 2211H");
        Kit.due("around", listed(b, -1), "LDA 2211H");
        Kit.due("beyond the out", b.out(9), -1);
        for (int twin : new int[] {0x08, 0x10, 0x18, 0x20, 0x28, 0x30, 0x38, 0xCB, 0xD9, 0xDD, 0xED, 0xFD}) {
            Kit.put(b, 2000, twin);
            Kit.due("twin", listed(b, 2000), String.format(twin > 0x9F ? "DB 0%02XH" : "DB %02XH", twin));
        }
        Kit.put(b, 2000, 0x76, 0, 0xC9, 0x77, 0xC0, 0xE9);
        Kit.due("HLT", listed(b, 2000), "HLT");
        Kit.put(b, 3000, 0x3E, 0x9F, 0xC3, 0x00, 0x9A, 0xC3, 0, 0xA0);
        Kit.due("9 is no letter", listed(b, 3000), "MVI A,9FH");
        Kit.due("9 is no letter", listed(b, 3002), "JMP 9A00H");
        Kit.due("A is one", listed(b, 3005), "JMP 0A000H");
        Kit.due("NOP", listed(b, 2001), "NOP");
        Kit.due("RET", listed(b, 2002), "RET");
        Kit.due("MOV", listed(b, 2003), "MOV M,A");
        Kit.due("RNZ", listed(b, 2004), "RNZ");
        Kit.due("PCHL", listed(b, 2005), "PCHL");
    }

    private static String due(int code) {
        String[] registers = {"B", "C", "D", "E", "H", "L", "M", "A"};
        String[] pairs = {"B", "D", "H", "SP"};
        String[] conditions = {"NZ", "Z", "NC", "C", "PO", "PE", "P", "M"};
        String[] sums = {"ADD", "ADC", "SUB", "SBB", "ANA", "XRA", "ORA", "CMP"};
        String[] sumsOfBytes = {"ADI", "ACI", "SUI", "SBI", "ANI", "XRI", "ORI", "CPI"};
        String[] turns = {"RLC", "RRC", "RAL", "RAR", "DAA", "CMA", "STC", "CMC"};
        String[] carried = {"STAX B", "LDAX B", "STAX D", "LDAX D", "SHLD w", "LHLD w", "STA w", "LDA w"};
        String[] returns = {"RET", "", "PCHL", "SPHL"};
        String[] specials = {"JMP w", "", "OUT b", "IN b", "XTHL", "XCHG", "DI", "EI"};
        int d = code >> 3 & 7;
        int p = code >> 4 & 3;
        boolean odd = (d & 1) != 0;
        if (code >= 0x40 && code < 0x80) {
            return code == 0x76 ? "HLT" : "MOV " + registers[d] + "," + registers[code & 7];
        }
        if (code >= 0x80 && code < 0xC0) {
            return sums[d] + " " + registers[code & 7];
        }
        if (code < 0x40) {
            switch (code & 7) {
                case 0: return code == 0 ? "NOP" : "";
                case 1: return odd ? "DAD " + pairs[p] : "LXI " + pairs[p] + ",w";
                case 2: return carried[d];
                case 3: return (odd ? "DCX " : "INX ") + pairs[p];
                case 4: return "INR " + registers[d];
                case 5: return "DCR " + registers[d];
                case 6: return "MVI " + registers[d] + ",b";
                default: return turns[d];
            }
        }
        pairs[3] = "PSW";
        switch (code & 7) {
            case 0: return "R" + conditions[d];
            case 1: return odd ? returns[p] : "POP " + pairs[p];
            case 2: return "J" + conditions[d] + " w";
            case 3: return specials[d];
            case 4: return "C" + conditions[d] + " w";
            case 5: return !odd ? "PUSH " + pairs[p] : code == 0xCD ? "CALL w" : "";
            case 6: return sumsOfBytes[d] + " b";
            default: return "RST " + d;
        }
    }

    private static void everyCode() {
        MonitorBoard b = null;
        for (int code = 0; code < 256; code++) {
            if (code % 64 == 0) {
                b = new MonitorBoard();
            }
            Kit.put(b, 700, code, 0xB5, 0x40);
            String due = due(code).replace(" b", " 0B5H").replace(",b", ",0B5H").replace("w", "40B5H");
            if (due.isEmpty()) {
                due = String.format(code > 0x9F ? "DB 0%02XH" : "DB %02XH", code);
            }
            Kit.due("code " + code, listed(b, 700), due);
        }
    }

    /** What is listed of each code assembles to it again. */
    private static void listAndAssemble() {
        MonitorBoard b = null;
        for (int code = 0; code < 256; code++) {
            if (code % 32 == 0) {
                b = new MonitorBoard();
            }
            Kit.put(b, 500, code, 0x9C, 0xF3);
            String text = listed(b, 500);
            int n = Kit.assemble(b, " " + text + "\n");
            Kit.due("length of " + text, n >= 1 && n <= 3, true);
            Kit.due("code of " + text, b.out(0), code);
            if (n > 1) {
                Kit.due("byte of " + text, b.out(1), 0x9C);
            }
            if (n > 2) {
                Kit.due("word of " + text, b.out(2), 0xF3);
            }
        }
    }

    private static void hex() {
        MonitorBoard b = new MonitorBoard();
        Kit.due("of nothing", Kit.out(b, b.hex()), ":00000001FF\r\n");
        Kit.assemble(b, " DB 1,2,255\n");
        Kit.due("of three", Kit.out(b, b.hex()), ":030100000102FFFA\r\n:00000001FF\r\n");
        Kit.assemble(b, " DS 16\n DB 80H\n");
        Kit.due("of seventeen", Kit.out(b, b.hex()),
            ":10010000" + "00".repeat(16) + "EF\r\n:01011000806E\r\n:00000001FF\r\n");
        Kit.assemble(b, " DS 1999\n DB 7,9\n");
        int count = b.hex();
        Kit.due("at most 2000", count, 125 * 45 + 13);
        Kit.due("the last byte", Kit.out(b, count).endsWith("07" + "21\r\n:00000001FF\r\n"), true);
        Kit.assemble(b, " DS 1984\n");
        Kit.due("124 lines", b.hex(), 124 * 45 + 13);
        b.console();
        Kit.due("of the console", Kit.out(b, b.hex()), ":090100000D0A36324B0D0A413E96\r\n:00000001FF\r\n");
    }
}
