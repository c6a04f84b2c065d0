/** Promise 14: the assembler, its numbers and its faults. */
public final class AssemblerTest {
    private static MonitorBoard board = new MonitorBoard();
    private static int uses = 0;

    public static void main(String[] args) {
        codes();
        lines();
        numbers();
        expressions();
        items();
        places();
        labels();
        faults();
        order();
        limits();
        cutTexts();
        fullTapes();
        Kit.finish();
    }

    private static int count(String source) {
        uses++;
        if (uses > 4) {
            board = new MonitorBoard();
            uses = 0;
        }
        return Kit.assemble(board, source);
    }

    private static void gives(String source, String hex) {
        int n = count(source);
        Kit.due("bytes of " + Kit.shown(source), n < 0 ? "fault at " + (-1 - n) : Kit.hex(board, n), hex);
    }

    /** The fault is where the first ^ stands, which is taken out. */
    private static void fault(String source) {
        int place = source.indexOf('^');
        String text = source.substring(0, place) + source.substring(place + 1);
        Kit.due("fault of " + Kit.shown(text), count(text), -1 - place);
        Kit.due("no out", board.out(0), -1);
        Kit.due("no tape", board.end(1), false);
    }

    private static void word(String expression, int value) {
        gives(" DW " + expression + "\n", String.format("%02X%02X", value & 255, value >> 8));
    }

    private static void codes() {
        String registers = "BCDEHLMA";
        for (int d = 0; d < 8; d++) {
            for (int s = 0; s < 8; s++) {
                if (d != 6 || s != 6) {
                    gives(" MOV " + registers.charAt(d) + "," + registers.charAt(s) + "\n",
                        String.format("%02X", 0x40 | d << 3 | s));
                }
            }
            gives(" MVI " + registers.charAt(d) + ",12H\n", String.format("%02X12", 6 | d << 3));
            gives(" INR " + registers.charAt(d) + "\n", String.format("%02X", 4 | d << 3));
            gives(" DCR " + registers.charAt(d) + "\n", String.format("%02X", 5 | d << 3));
        }
        String[] sums = {"ADD", "ADC", "SUB", "SBB", "ANA", "XRA", "ORA", "CMP"};
        String[] bytes = {"ADI", "ACI", "SUI", "SBI", "ANI", "XRI", "ORI", "CPI"};
        String[] conditions = {"NZ", "Z", "NC", "C", "PO", "PE", "P", "M"};
        for (int o = 0; o < 8; o++) {
            for (int s = 0; s < 8; s++) {
                gives(" " + sums[o] + " " + registers.charAt(s) + "\n", String.format("%02X", 0x80 | o << 3 | s));
            }
            gives(" " + bytes[o] + " 255\n", String.format("%02XFF", 0xC6 | o << 3));
            gives(" J" + conditions[o] + " 1234H\n", String.format("%02X3412", 0xC2 | o << 3));
            gives(" C" + conditions[o] + " 1234H\n", String.format("%02X3412", 0xC4 | o << 3));
            gives(" R" + conditions[o] + "\n", String.format("%02X", 0xC0 | o << 3));
            gives(" RST " + o + "\n", String.format("%02X", 0xC7 | o << 3));
        }
        String[] pairs = {"B", "D", "H", "SP"};
        for (int p = 0; p < 4; p++) {
            gives(" LXI " + pairs[p] + ",5678H\n", String.format("%02X7856", 1 | p << 4));
            gives(" INX " + pairs[p] + "\n", String.format("%02X", 3 | p << 4));
            gives(" DCX " + pairs[p] + "\n", String.format("%02X", 0x0B | p << 4));
            gives(" DAD " + pairs[p] + "\n", String.format("%02X", 9 | p << 4));
            String stack = p == 3 ? "PSW" : pairs[p];
            gives(" PUSH " + stack + "\n", String.format("%02X", 0xC5 | p << 4));
            gives(" POP " + stack + "\n", String.format("%02X", 0xC1 | p << 4));
        }
        gives(" STAX B\n STAX D\n LDAX B\n LDAX D\n", "02120A1A");
        gives(" SHLD 1\n LHLD 2\n STA 3\n LDA 4\n", "2201002A02003203003A0400");
        gives(" RLC\n RRC\n RAL\n RAR\n DAA\n CMA\n STC\n CMC\n", "070F171F272F373F");
        gives(" JMP 1\n CALL 2\n RET\n XTHL\n XCHG\n PCHL\n SPHL\n", "C30100CD0200C9E3EBE9F9");
        gives(" OUT 1\n IN 2\n DI\n EI\n NOP\n HLT\n", "D301DB02F3FB0076");
    }

    private static void lines() {
        gives("", "");
        gives("\n\n", "");
        gives(" nop", "00");
        gives("\tNop\t;what\u00ff\u0000 ever\r\r\n hlt\r\n", "0076");
        gives("; at the beginning\n NOP;here\n", "00");
        gives("X:NOP\nY NOP\nZ\nV:\n DW X,Y,Z,V\n", "0000" + "0001" + "0101" + "0201" + "0201");
        gives("MOV: MOV A,B\nEND NOP\n JMP MOV\n JMP END\n", "7800C30001C30101");
        gives(" NOP\n END of all ( '\n JUNK\n", "00");
        gives("L END\n", "");
        gives(" MVI A , 5 \r\n MVI\tB\t,\t6\n", "3E050606");
        gives(" DB'a'\n JMP$\n", "61C30101");
        fault("X ^: NOP\n");
        fault("^1X NOP\n");
        fault(" ^,\n");
        fault(" NOP ^\r");
        fault(" NOP^\r NOP\n");
        fault(" NOP^\r\r\n");
        gives(" NOP ;\r", "00");
        fault("ABCDEFGH^I NOP\n");
        gives("ABCDEFGH NOP\n", "00");
        fault(" NOP ^5\n");
        fault(" ^\u0000\n");
    }

    private static void numbers() {
        word("10", 10);
        word("10D", 10);
        word("10d", 10);
        word("10B", 2);
        word("10O", 8);
        word("17q", 15);
        word("10H", 16);
        word("0fFh", 255);
        word("0BH", 11);
        word("1DH", 29);
        word("0B", 0);
        word("65536", 0);
        word("65537", 1);
        word("123456H", 0x3456);
        word("00000000000000000007", 7);
        word("$", 256);
        word("'A'", 65);
        word("''''", 39);
        word("' '", 32);
        word("'~'", 126);
        fault(" DW 1^2B\n");
        fault(" DW 7^8Q\n");
        fault(" DW 12^A\n");
        fault(" DW 0^A\n");
        fault(" DW 1^X2\n");
        fault(" DW 0F^GH\n");
        fault(" DW 1^B2\n");
        fault(" DW 1^2AB\n");
        fault(" DW '^'\n");
        fault(" DW '^',1\n");
        fault(" DW 'a^b'\n");
        fault(" DW '''^a'\n");
        fault(" DW '''^\n");
        fault(" DW 'a^\n");
        fault(" DW 'a^");
        fault(" DW '^\n");
        fault(" DW '^");
        fault(" DW '^\t'\n");
        fault(" DW '^\u007f'\n");
        fault(" DW ^\n");
        fault(" DW ^");
        fault(" DW ^@\n");
    }

    private static void expressions() {
        word("1+2*3", 7);
        word("(1+2)*3", 9);
        word("10-4-3", 3);
        word("100/7/2", 7);
        word("100/(7/2)", 33);
        word("5/0", 0);
        word("5/(3-3)+1", 1);
        word("-1", 65535);
        word("-6/2", 32765);
        word("--5", 5);
        word("-+-+-5", 65531);
        word("2*-3", 65530);
        word("2--3", 5);
        word("2-+3", 65535);
        word("-(2+3)*2", 65526);
        word("65535*65535", 1);
        word("300*300", 90000 & 65535);
        word("0-1/2", 0);
        word("(0-1)/2", 32767);
        word(" 1 + 2 * ( 3 - 4 ) ", 65535);
        word("((((7))))", 7);
        word("2*(3+4)*(5-1)-6/(1+1)", 53);
        word("$+$", 512);
        StringBuilder deep = new StringBuilder();
        deep.append("(".repeat(100)).append("3").append(")".repeat(100));
        word(deep.toString(), 3);
        word("-".repeat(1001) + "3", 65533);
        fault(" DW " + "(".repeat(100) + "^(3" + ")".repeat(101) + "\n");
        word("(".repeat(99) + "(1)+(2)" + ")".repeat(99), 3);
        fault(" DW (1^\n");
        fault(" DW (1^,2)\n");
        fault(" DW 1^)\n");
        fault(" DW (^)\n");
        fault(" DW 1+^\n");
        fault(" DW 1+^*2\n");
        fault(" DW 1*^/2\n");
        fault(" DW 1 ^2\n");
        fault(" DW -^\n");
        fault(" DW (1+2^;)\n");
    }

    private static void items() {
        gives(" DB 1,'ab',2\n", "01616202");
        gives(" DB 'it''s'\n", "69742773");
        gives(" DB ''''''\n", "2727");
        gives(" DB ''''\n", "27");
        gives(" DB 'A'+1,'A'*2\n", "4282");
        gives(" DB 'a;b' ; c\n", "613B62");
        gives(" DB ' ~' ;c\n DB ' ' ; cc\n DB 1;ccc\n DB 2\n", "207E200102");
        gives(" DB -1,-256,255,65280\n", "FF00FF00");
        gives(" DW 1,'a',$,$\n", "0100610000010001");
        gives("X DB 9\n DB 1,$-256\n", "090101");
        gives(" DS 3\n DB 1\n DS 2\n", "000000010000");
        fault(" DB '^'\n");
        fault(" DB '^',1\n");
        fault(" DB 'ab^\n");
        fault(" DB 'ab^");
        fault(" DB 'ab'^+1\n");
        fault(" DB 'a^\tb'\n");
        fault(" DB 'ab^\u0080'\n");
        fault(" DB 'ab^\u007f'\n");
        fault(" DB 'ab^\u001f'\n");
        fault(" DB '^\u007f'\n");
        fault(" MVI A,'^\u007f'\n");
        fault(" DB ('a^b')\n");
        fault(" DB 1,^\n");
        fault(" DB ^,1\n");
        fault(" DB ^\n");
        fault(" DB 'A'^B\n");
        fault(" DW 'a^b'\n");
        fault(" DB 1,^256\n");
        fault(" DB ^-257\n");
        fault(" DB 1, ^128*2,X\n");
        fault(" MVI A,^1000\n");
        fault(" ADI ^256\n");
        fault(" OUT ^300\n");
        fault(" IN ^-300\n");
        fault(" RST ^8\n");
        fault(" RST ^-1\n");
        gives(" MVI A,-256\n", "3E00");
        gives(" LXI H,-1\n", "21FFFF");
    }

    private static void places() {
        gives(" ORG 256\n DB 1\n", "01");
        gives(" ORG 100H+3\n DB 1\n", "00000001");
        gives(" DB 7\n ORG 260\n DB 8\n ORG 300\n", "0700000008");
        gives(" DB 7\n ORG 300\n DS 0\n", "07");
        gives(" ORG 258\n DS 1\n", "000000");
        gives("A ORG 258\n DB A-256,$-256\n", "00000202");
        gives("A EQU 5\nB EQU A*2\n DB A,B\nC: EQU $\n DW C\n", "050A0201");
        gives("A DS 2\nB DS A-254\n DW A,B\n", "0000" + "0000" + "0001" + "0201");
        fault(" ORG ^255\n");
        fault(" DB 1\n ORG ^256\n");
        gives(" DB 1\n ORG $\n DB 2\n", "0102");
        fault(" ORG ^58369\n");
        Kit.due("the last place", count(" ORG 58368\n"), 0);
        Kit.due("the last byte", count(" ORG 58367\n DB 5\n"), 58112);
        Kit.due("it", board.out(58111), 5);
        Kit.due("a gap", board.out(58110), 0);
        fault(" ORG 58367\n ^DB 5,6\n");
        fault(" ORG 58368\n ^NOP\n");
        fault(" ORG 58366\nX ^JMP X\n");
        fault(" ORG 58367\n ^DW 5\n");
        Kit.due("a last word", count(" ORG 58366\n DW 5\n"), 58112);
        Kit.due("a last text", count(" ORG 58366\n DB 'ab'\n"), 58112);
        Kit.due("a last code", count(" ORG 58365\n JMP 5\n"), 58112);
        Kit.due("a last code", count(" ORG 58365\n LXI H,5\n"), 58112);
        Kit.due("a last code", count(" ORG 58366\n MVI M,5\n"), 58112);
        Kit.due("a last code", count(" ORG 58366\n OUT 5\n"), 58112);
        Kit.due("a last code", count(" ORG 58367\n MOV A,B\n"), 58112);
        Kit.due("a last code", count(" ORG 58367\n RST 1\n"), 58112);
        fault(" ORG 58366\n ^LXI H,5\n");
        fault(" ORG 58367\n ^MVI M,5\n");
        fault(" ORG 58368\n ^INR M\n");
        fault(" ORG 58366\n DB 'ab'\n ^DB 'ab'\n");
        fault(" ORG 58367\n ^DB 1,2,)\n");
        fault(" ORG 58366\n DB 1,2^)\n");
        fault(" ORG 58368\n JMP ^)\n");
        fault(" ORG 58367\n DS ^2\n");
        fault(" DS ^-1\n");
        Kit.due("DS to the end", count(" DS 58112\n"), 58112);
        Kit.due("zeros again", board.out(58111), 0);
        fault(" DS ^58113\n");
        fault(" ^EQU 5\n");
        fault(" ^EQU\n");
        fault("X NOP\n ^EQU 5\n");
        fault("X EQU ^\n");
        fault("X EQU ^X\n");
        fault("X ORG ^X\n");
        fault(" ORG ^X\nX EQU 300\n");
        fault(" DS 1+^Y\nY EQU 1\n");
        fault("X EQU 1+^ABCDEFGHI\n");
    }

    private static void labels() {
        gives(" JMP x1\nX1: NOP\n", "C3030100");
        gives("abc EQU 3\n DB ABC,Abc\n", "0303");
        gives("z EQU 3\nZz90: DB Z,zZ90/256\n", "0301");
        gives("a09z DB 1\n DB A09Z-255\n", "0101");
        fault("a{ NOP\n".replace("{", "^{"));
        fault("a@ NOP\n".replace("@", "^@"));
        fault("a[ NOP\n".replace("[", "^["));
        fault("a` NOP\n".replace("`", "^`"));
        fault("a/ NOP\n".replace("/", "^/"));
        gives("B EQU 4\n MVI B,B\n LXI B,B\n", "0604010400");
        gives("ABCDEFGH NOP\nABCDEFG NOP\n JMP ABCDEFGH\n JMP ABCDEFG\n", "0000C30001C30101");
        fault("X NOP\n^X NOP\n");
        fault("X NOP\n^x: EQU 5\n");
        fault(" JMP ^NONE\n");
        fault(" DB 1,^NONE\n");
        fault(" JMP ^ABCDEFGHI\nABCDEFGH NOP\n");
        fault(" DB 300-^X\n");
        StringBuilder b = new StringBuilder();
        for (int i = 0; i < 100; i++) {
            b.append("L").append(i).append("\n");
        }
        gives(b + " DW L99,L0\n", "00010001");
        fault(b + "^L100\n");
        fault(b + "^L5\n");
    }

    private static void faults() {
        fault(" ^MOVE A,B\n");
        fault(" ^MOV1 A,B\n");
        fault(" ^ABCDEFGHIJ\n");
        fault(" MOV ^X,A\n");
        fault(" MOV A^\n");
        fault(" MOV A ^B\n");
        fault(" MOV A,^\n");
        fault(" MOV A,^SP\n");
        fault(" MOV ^AB,C\n");
        fault(" MOV M,^M\n");
        fault(" MOV A,B^,C\n");
        fault(" MVI A^\n");
        fault(" MVI A,^\n");
        fault(" MVI ^,5\n");
        fault(" MVI ^5,5\n");
        fault(" LXI ^PSW,5\n");
        fault(" LXI ^A,5\n");
        fault(" PUSH ^SP\n");
        fault(" POP ^M\n");
        fault(" STAX ^H\n");
        fault(" LDAX ^SP\n");
        fault(" INX ^BC\n");
        fault(" INR ^SP\n");
        fault(" ADD ^5\n");
        fault(" JMP ^\n");
        fault(" JMP 5^,6\n");
        fault(" ORG ^\n");
        fault(" DS 1^,2\n");
        fault(" RST ^\n");
        fault(" RET ^A\n");
        fault(" JMP ^");
    }

    /** What can't go on anywhere comes ahead of what only the second reading finds. */
    private static void order() {
        fault(" JMP NONE\n MVI A,^)\n");
        fault(" DB 300\n ^WHAT\n");
        fault(" RST 9\nX\n^X\n");
        fault(" DB 300\n ORG ^0\n");
        fault(" DB 1,^300,NONE\n DB NONE\n");
        fault(" DB ^NONE,300\n RST 9\n");
        fault(" MVI A,^NONE+300\n");
        fault("X1234567^8 NOP\n");
        fault(" ^BAD\n ALSO\n");
        fault(" ORG ^5 junk\n");
    }

    private static void limits() {
        StringBuilder b = new StringBuilder();
        while (b.length() < 3990) {
            b.append(" NOP\n");
        }
        gives(b.toString(), "00".repeat(b.length() / 5));
        Kit.tape(board, " NOP\n");
        board.end(4);
        Kit.due("without its 10", board.assemble(), 1);
        Kit.tape(board, " DW 'a'+1\n");
        board.end(6);
        Kit.due("what was behind the end does not count", board.assemble(), -1 - 6);
        Kit.tape(board, " DW 1--1\n");
        board.end(6);
        Kit.due("nor here", board.assemble(), -1 - 6);
        Kit.due("an empty tape", board.assemble(), 0);
    }

    /** Each beginning of a text gives the same, whatever stands behind the tape's end. */
    private static void cutTexts() {
        String text = "LAB1: MOV A,M ;x\r\n DB 'a''b',12H,-LAB1/256\nX2 EQU (1+2)*3\r\n LXI SP,X2\n DS 2\n ORG 300\n"
            + " PUSH PSW\n RST 7\n DW $,'c',X2\n END ";
        for (int n = 0; n <= text.length(); n++) {
            MonitorBoard one = new MonitorBoard();
            Kit.tape(one, text);
            one.end(n);
            MonitorBoard other = new MonitorBoard();
            Kit.tape(other, text.substring(0, n));
            int count = one.assemble();
            Kit.due("the first " + n, count, other.assemble());
            Kit.due("its bytes", Kit.hex(one, Math.max(count, 0)), Kit.hex(other, Math.max(count, 0)));
        }
    }

    /** Texts that end with the tape. */
    private static void fullTapes() {
        String[] ends = {"X", "LABEL", " JMP X", " MOV A", " MOV A,", " DB 'a", " DB '", " DB 'a'", " DB 'ab'", " DB ''", " DW 12",
            " DW 12H", " DW (1", " DW 1+", " DW -", " DW $", " DB 1,", ";", " ", "\t", "\r", "\r\n", "X:", " PUSH PSW", " END"};
        int[] due = {0, 0, -1, -1, -1, -1, -1, 1, 2, -1, 2, 2, -1, -1, -1, 2, -1, 0, 0, 0, -1, 0, 0, 1, 0};
        for (int i = 0; i < ends.length; i++) {
            String text = "\n".repeat(4000 - ends[i].length()) + ends[i];
            MonitorBoard b = new MonitorBoard();
            Kit.tape(b, text);
            int count = b.assemble();
            Kit.due("ends with " + Kit.shown(ends[i]), Math.max(count, -1), due[i]);
            if (due[i] < 0) {
                Kit.due("its place " + count, count <= -1 - 4000 + ends[i].length() && count >= -1 - 4000, true);
            }
        }
    }
}
