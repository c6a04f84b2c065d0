/** The boundary cases of Part VI: each sentence of the assembler that names one has its own part here. */
public final class AssemblerEdgesTest {
    private static final int END = 58368;
    private static MonitorBoard board = new MonitorBoard();
    private static int uses = 0;

    public static void main(String[] args) {
        linesAndBlanks();
        lastLine();
        labelsOfEightSigns();
        labelsOfAnyWord();
        operationsThatAreNot();
        textsOfBytes();
        textsOfOneSign();
        numbersOfEachBase();
        numbersAround();
        oneSign();
        labelsInNumbers();
        signsAhead();
        division();
        depth();
        toldAbove();
        bytesUpToTheLast();
        originEdges();
        spaceEdges();
        bytesBeyond();
        itemsByThemselves();
        labelOfOrigin();
        operandsOfTheirOwn();
        labelsTwice();
        hundredLabels();
        bytesOfNumbers();
        restarts();
        firstInTheText();
        thenLineByLine();
        endReadsNoMore();
        Kit.finish();
    }

    private static int count(String source) {
        uses++;
        if (uses > 4) {
            board = new MonitorBoard();
            uses = 0;
        }
        return Kit.assemble(board, source);
    }

    private static void gives(String source, String hex) {
        int n = count(source);
        Kit.due("bytes of " + Kit.shown(source), n < 0 ? "fault at " + (-1 - n) : Kit.hex(board, n), hex);
    }

    private static void size(String source, int bytes) {
        Kit.due("how many of " + Kit.shown(source), count(source), bytes);
    }

    /** The fault is where the first ^ stands, which is taken out. */
    private static void fault(String source) {
        int place = source.indexOf('^');
        String text = source.substring(0, place) + source.substring(place + 1);
        Kit.due("fault of " + Kit.shown(text), count(text), -1 - place);
        Kit.due("no out", board.out(0), -1);
    }

    private static void word(String expression, int value) {
        gives(" DW " + expression + "\n", String.format("%02X%02X", value & 255, value >> 8));
    }

    /** Each line is ended by 10; 13 ahead of it, S and 9 are blanks. */
    private static void linesAndBlanks() {
        gives("\n\r\n \n\t\n \t \r\n;\n;\r\n", "");
        gives(" \tNOP\t \r\n", "00");
        gives(" NOP\n\n\n HLT", "0076");
        gives(" MVI\tA\t,\t1\t;\r\r\r\n", "3E01");
        fault("^\r NOP\n");
        fault("^\r\r\n");
        fault(" NOP^\rX\n");
        fault(" DW 1^\r,2\n");
        fault("^\0");
        fault(" NOP ^\u000b\n");
        fault(" NOP^\u00a0\n");
        fault(" NOP^\u008a\n");
        for (int sign : new int[] {0, 31, 33, 127, 128, 254, 255}) {
            char c = (char) sign;
            fault("^" + c + "\n");
            fault(" ^" + c + "\n");
            fault(" NOP^" + c + "\n");
            fault(" MOV ^" + c + "\n");
            fault(" DW ^" + c + "\n");
            fault("L^" + c + "\n");
            fault(" DW 1^" + c + "\n");
            fault(" DW L^" + c + "\n");
            gives(" NOP ;" + c + "\n", "00");
        }
    }

    /** The last line may lack its 10; a 13 at the text's end is a FAULT. */
    private static void lastLine() {
        gives(" NOP", "00");
        gives(" NOP ", "00");
        gives(" NOP;", "00");
        gives(" NOP;\r", "00");
        gives("X", "");
        gives("X:", "");
        gives(" NOP\r\n", "00");
        fault(" NOP^\r");
        fault("^\r");
        fault(" NOP\n^\r");
        fault(" NOP\r\n^\r");
        fault("X^\r");
        fault(" DW 1^\r");
        fault(" DW ^\r");
    }

    /** At most 8, the ninth being a FAULT. */
    private static void labelsOfEightSigns() {
        gives("A NOP\nA2345678 NOP\n DW A,A2345678\n", "0000" + "0001" + "0101");
        fault("A2345678^9 NOP\n");
        fault("A2345678^9: NOP\n");
        fault("ABCDEFGH^IJKLMNOPQ\n");
        fault("ABCDEFGH^I");
        gives("ABCDEFGH: NOP\nABCDEFG: NOP\n DW ABCDEFGH,ABCDEFG\n", "0000" + "0001" + "0101");
        fault("^9A NOP\n");
        fault("^_A NOP\n");
        fault("A^_ NOP\n");
        fault("^: NOP\n");
        fault("A:^: NOP\n");
        fault("A^.B NOP\n");
    }

    /** Whatever word it is; with ':' or without. */
    private static void labelsOfAnyWord() {
        gives("NOP NOP\nORG: DB 1\nEND DB 2\nM DB 3\nSP DB 4\nPSW DB 5\n DW NOP,ORG,END,M,SP,PSW\n",
            "000102030405" + "000101010201030104010501");
        gives("NOP\nHLT:\n DW NOP,HLT\n", "00010001");
        gives("DB: DB 7\n LXI H,DB\n", "07210001");
        gives("A:DB 1\n", "01");
    }

    /** An operation that there is not (at it). */
    private static void operationsThatAreNot() {
        for (String word : new String[] {"X", "NO", "NOPE", "MOV1", "DB2", "EQ", "EQUX", "JN", "JNZZ", "CPX", "RCC", "PSW", "A", "ABCDEFGHI"}) {
            fault(" ^" + word + "\n");
            fault("L: ^" + word + " 5\n");
        }
        fault(" ^.ORG 5\n");
        fault(" ^5\n");
        fault("L ^5\n");
    }

    /** Texts: bytes 32 .. 126, '' a ', at least one sign. */
    private static void textsOfBytes() {
        gives(" DB ' ~'\n", "207E");
        gives(" DB '''a'''\n", "276127");
        gives(" DB 'a''b'\n", "612762");
        gives(" DB '''''a'\n", "272761");
        fault(" DB '^'\n");
        fault(" DB '^'");
        fault(" DB '^',5\n");
        fault(" DB 'a^\u001f'\n");
        fault(" DB 'a^\u007f'\n");
        fault(" DB 'a^\u0080'\n");
        fault(" DB 'a^\u00ff'\n");
        fault(" DB 'a^\tb'\n");
        fault(" DB 'ab^\r\n");
        fault(" DB 'ab^\n");
        fault(" DB 'ab^");
        fault(" DB 'ab''^\n");
        fault(" DB '''^\n");
        fault(" DB '^\n");
        fault(" DB '^");
        fault(" DB 'ab' ^'cd'\n");
        fault(" DB 'ab'^5\n");
    }

    /** Of one sign it is a number. */
    private static void textsOfOneSign() {
        gives(" DB 'a'\n DB 'a'+1\n DB -'a'\n DB 2*'a'/2,'b'-'a'\n", "61629F6101");
        gives(" DB ''''\n DB ''''+1\n", "2728");
        gives(" DB 'ab' , 'c' ,\t'de'\t, 5\n", "616263646505");
        gives(" DB ';',';;'\n", "3B3B3B");
        fault(" DB 'ab'^+1\n");
        fault(" DB 'ab'^*1\n");
        fault(" DB 1+'a^b'\n");
        fault(" DB ('a^b')\n");
        fault(" DW 'a^b'\n");
        fault(" MVI A,'a^b'\n");
        fault(" DB 'a' ^'\n");
    }

    /** A digit or letter that its base does not have: FAULT at it. */
    private static void numbersOfEachBase() {
        word("1111B", 15);
        word("17O", 15);
        word("17Q", 15);
        word("15D", 15);
        word("15", 15);
        word("0FH", 15);
        word("0fh", 15);
        word("1b", 1);
        word("0BH", 11);
        word("0DH", 13);
        word("1BH", 27);
        word("10D", 10);
        fault(" DW 1^2B\n");
        fault(" DW 10^A1B\n");
        fault(" DW ^8O\n");
        fault(" DW 7^9Q\n");
        fault(" DW 7^AQ\n");
        fault(" DW 1^AD\n");
        fault(" DW 1^BD\n");
        fault(" DW 9^A\n");
        fault(" DW 1^BB\n");
        fault(" DW 1^F\n");
        fault(" DW 0^GH\n");
        fault(" DW 0F^ZH\n");
        fault(" DW 1^H1\n");
        fault(" DW 0^X10\n");
        fault(" DW 1^E5\n");
        fault(" DW 5^_\n");
        fault(" DW 5^.5\n");
    }

    /** All modulo 65536. */
    private static void numbersAround() {
        word("65535", 65535);
        word("65536", 0);
        word("65537D", 1);
        word("131071", 65535);
        word("99999999999999999999", (int) (new java.math.BigInteger("99999999999999999999").longValue() & 65535));
        word("0FFFFH", 65535);
        word("10000H", 0);
        word("0123456789ABCDEFH", 0xCDEF);
        word("177777Q", 65535);
        word("200000Q", 0);
        word("1" + "0".repeat(16) + "B", 0);
        word("1".repeat(40) + "B", 65535);
        word("65535+1", 0);
        word("0-1", 65535);
        word("65535*65535", 1);
        word("256*256", 0);
        word("255*257", 65535);
        word("0".repeat(3000) + "9", 9);
    }

    /** 'x' one sign of bytes 32 .. 126. */
    private static void oneSign() {
        word("' '", 32);
        word("'~'", 126);
        word("''''", 39);
        word("'('+')'", 81);
        fault(" DW '^'\n");
        fault(" DW '^'+1\n");
        fault(" DW '^' '\n");
        fault(" DW '''^\n");
        fault(" DW '''^+1\n");
        fault(" DW '''^");
        fault(" DW 'a^\n");
        fault(" DW 'a^a'\n");
        fault(" DW 'a^");
        fault(" DW '^");
        fault(" DW '^\u001f'\n");
        fault(" DW '^\u007f'\n");
        fault(" DW '^\u00e1'\n");
        fault(" DW 'a' ^'\n");
    }

    /** LABELS: longer than 8: one that is not there. */
    private static void labelsInNumbers() {
        gives("ABCDEFGH EQU 5\n DB ABCDEFGH\n", "05");
        fault("ABCDEFGH EQU 5\n DB ^ABCDEFGHI\n");
        fault("ABCDEFGH EQU 5\n DB ^ABCDEFGHIJKLMNOP+1\n");
        fault(" JMP ^A\n");
        fault(" JMP 1+(2*^A)\n");
        fault(" JMP ^SP\n");
        gives("A EQU 1\nB EQU 2\n MVI A,A\n MVI B,B+A\n", "3E010603");
        gives(" DW L\nL\n", "0201");
        gives("l NOP\n DW L,l\n", "0000010001");
    }

    /** + - also ahead of any part, again and again. */
    private static void signsAhead() {
        word("+5", 5);
        word("-5", 65531);
        word("- - 5", 5);
        word("+-+-+5", 5);
        word("3--5", 8);
        word("3-+-5", 8);
        word("3*-5", 65521);
        word("3*--5", 15);
        word("-3*-5", 15);
        word("-(3)", 65533);
        word("-(-(3))", 3);
        word("-$", 65280);
        word("-'a'", 65536 - 97);
        word("-".repeat(3000) + "1", 1);
        word("-1/2", 32767);
        word("6/-1", 0);
        fault(" DW -^\n");
        fault(" DW 1-^\n");
        fault(" DW 1-^)\n");
        fault(" DW -^*1\n");
        fault(" DW ^*1\n");
        fault(" DW 1*^*1\n");
        fault(" DW 1*^/1\n");
    }

    /** / with 0 behind: 0; of words without sign. */
    private static void division() {
        word("5/0", 0);
        word("0/0", 0);
        word("5/(1-1)", 0);
        word("7+5/0", 7);
        word("5/0*9+1", 1);
        word("65535/1", 65535);
        word("65535/65535", 1);
        word("65534/65535", 0);
        word("-1/-1", 1);
        word("-2/2", 32767);
        word("32768/-1", 0);
        word("7/2*2", 6);
        word("2*7/2", 7);
        word("1+2*3-4/2", 5);
    }

    /** ( ) at most 100 deep (FAULT at the next). */
    private static void depth() {
        word("(".repeat(100) + "7" + ")".repeat(100), 7);
        fault(" DW " + "(".repeat(100) + "^(7" + ")".repeat(101) + "\n");
        fault(" DW " + "(".repeat(100) + "^((7" + ")".repeat(102) + "\n");
        word("(".repeat(100) + "7" + ")".repeat(100) + "+" + "(".repeat(100) + "8" + ")".repeat(100), 15);
        word("(".repeat(99) + "(1)*(2)+(3)" + ")".repeat(99), 5);
        fault(" DW 1+" + "-(".repeat(100) + "-^(7" + ")".repeat(101) + "\n");
        word("-(".repeat(100) + "7" + ")".repeat(100), 7);
        fault(" DW " + "(".repeat(100) + "7" + ")".repeat(99) + "^\n");
        fault(" DW " + "(".repeat(100) + "7" + ")".repeat(100) + "^)\n");
        fault(" DW (^)\n");
        fault(" DW (^\n");
        fault(" DW (1^");
        fault(" DW (1 ^2)\n");
        fault(" DW (1^,2)\n");
        fault(" ORG " + "(".repeat(100) + "^(300" + ")".repeat(101) + "\n");
        fault(" DS " + "(".repeat(100) + "^(3" + ")".repeat(101) + "\n");
        fault("X EQU " + "(".repeat(100) + "^(3" + ")".repeat(101) + "\n");
        word("(2*(3+4))", 14);
        word("(10-(2-(3-1)))", 10);
        word("((8/(2))-(1))", 3);
        word("(1+(2*(3+(4*(5)))))", 47);
        word("5--(3)", 8);
        word("-(6)/2", 32765);
        word("8/-(2)", 0);
        word("(1-(-(6)/2))", 65536 + 1 - 32765);
    }

    /** ORG, DS, EQU want LABELS that are told above. */
    private static void toldAbove() {
        gives("X EQU 2\n DS X\nY EQU X+1\n ORG 256+Y\n DB Y\n", "00000003");
        gives("X EQU $\nY DS X-255\n DW Y\n", "000001");
        fault(" DS ^X\nX EQU 2\n");
        fault(" ORG ^X\nX EQU 300\n");
        fault("Y EQU ^X\nX EQU 2\n");
        fault("X EQU ^X\n");
        fault("X DS ^X\n");
        fault("X ORG ^X\n");
        fault("X EQU 1\n DS X-1+^XX\n");
        fault("Y EQU 1+^ABCDEFGHI\n");
        gives(" DW Y\nY EQU 5\n", "0500");
    }

    /** Bytes come up to the last one that is told (by DS, too; ORG and DS 0 tell none), gaps ahead of it are 0. */
    private static void bytesUpToTheLast() {
        gives(" ORG 300\n", "");
        gives(" DB 1\n ORG 300\n DS 0\n", "01");
        gives(" ORG 259\n DS 1\n", "00000000");
        gives(" DS 0\n", "");
        gives(" DS 1\n", "00");
        gives(" DB 1\n ORG 258\n DB 2\n ORG 260\n DS 1\n ORG 400\n", "0100020000");
        size(" DB 255\n ORG 58367\n DB 255\n", 58112);
        Kit.due("the first", board.out(0), 255);
        Kit.due("the gap", board.out(1), 0);
        Kit.due("the gap", board.out(58110), 0);
        Kit.due("the last", board.out(58111), 255);
        size(" ORG 58367\n DB 1\n", 58112);
        Kit.due("what an earlier text told is gone", board.out(0), 0);
        size(" DS 58112\n", 58112);
        Kit.due("here, too", board.out(58111), 0);
    }

    /** ORG below where one is or above 58368: at the operand. */
    private static void originEdges() {
        gives(" ORG 256\n DB 1\n", "01");
        gives(" DB 1\n ORG 257\n DB 2\n", "0102");
        size(" ORG 58368\n", 0);
        size(" ORG 58368\n ORG 58368\n", 0);
        fault(" ORG ^255\n");
        fault(" ORG ^0\n");
        fault(" DB 1\n ORG ^256\n");
        fault(" ORG 300\n ORG ^299\n");
        fault(" ORG  ^58369\n");
        fault(" ORG ^65535\n");
        fault(" ORG ^-1\n");
        fault(" ORG ^(255)\n");
        fault(" ORG ^+255 ; below\n");
        gives(" ORG 65536+256\n DB 1\n", "01");
        fault(" ORG ^\n");
        fault(" ORG 300^,301\n");
        fault(" ORG 300 ^X\n");
    }

    /** DS beyond 58368: at the operand. */
    private static void spaceEdges() {
        size(" DS 58112\n", 58112);
        fault(" DS ^58113\n");
        fault(" DS ^65535\n");
        fault(" DS ^-1\n");
        size(" DS 65536\n", 0);
        size(" ORG 58368\n DS 0\n", 0);
        fault(" ORG 58368\n DS ^1\n");
        size(" DB 1\n DS 58111\n", 58112);
        fault(" DB 1\n DS  ^58112\n");
        fault(" DS ^\n");
        fault(" DS 1^,1\n");
    }

    /** Other bytes at 58368 or above: at the operation, behind its operands. */
    private static void bytesBeyond() {
        String[] one = {"NOP", "MOV A,B", "INX H", "STAX B", "ADD M", "RST 7", "PUSH PSW", "RET", "DB 5"};
        String[] two = {"MVI A,5", "ADI 5", "OUT 5", "IN 5", "DW 5", "DB 'ab'"};
        String[] three = {"LXI H,5", "JMP 5", "CALL 5", "JNZ 5", "STA 5", "SHLD 5", "DB 'abc'"};
        String[][] all = {one, two, three};
        for (int n = 1; n <= 3; n++) {
            for (String code : all[n - 1]) {
                size(" ORG " + (END - n) + "\n " + code + "\n", 58112);
                fault(" ORG " + (END - n + 1) + "\nL: ^" + code + "\n");
                fault(" ORG " + END + "\n ^" + code + "\n");
            }
        }
        fault(" ORG 58368\n JMP ^\n");
        fault(" ORG 58368\n MOV A,^Q\n");
        fault(" ORG 58368\n MVI A,5^B2\n");
        fault(" ORG 58368\n ^JMP NONE\n");
        fault(" ORG 58368\n ^RST 9\n");
        fault(" ORG 58368\n ^NOP junk\n");
    }

    /** Of DB, DW each item by itself. */
    private static void itemsByThemselves() {
        size(" ORG 58366\n DB 1,2\n", 58112);
        fault(" ORG 58366\n ^DB 1,2,3\n");
        fault(" ORG 58366\n ^DB 1,2,3,)\n");
        fault(" ORG 58366\n DB 1,2^)\n");
        fault(" ORG 58366\n DB 1,^)\n");
        fault(" ORG 58364\n ^DW 1,2,3,)\n");
        size(" ORG 58364\n DW 1,2\n", 58112);
        fault(" ORG 58365\n ^DW 1,2\n");
        fault(" ORG 58365\n ^DB 'ab','cd',)\n");
        fault(" ORG 58365\n DB 'ab',^)\n");
    }

    /** ORG's LABEL means its number; $ is where the line's bytes begin. */
    private static void labelOfOrigin() {
        gives("L ORG 258\n DW L\n", "00000201");
        gives(" NOP\nL ORG $+1\n DW L,$\n", "0000" + "0201" + "0201");
        gives(" DB 1,2,$-256\n DB $-256\n", "01020003");
        gives(" NOP\n JMP $\n", "00C30101");
        gives("L DS 2\n DW L\n", "00000001");
        gives(" NOP\nL EQU $\n DW L\n", "000101");
        size("L ORG 58368\n ORG L\n", 0);
    }

    /** MOV M,M: at the second M; EQU without a LABEL: at it; operands of their own kind. */
    private static void operandsOfTheirOwn() {
        fault(" MOV M,^M\n");
        fault(" MOV M , ^m\n");
        gives(" MOV M,A\n MOV A,M\n", "777E");
        fault(" ^EQU 5\n");
        fault(" ^EQU NONE\n");
        fault("L NOP\n ^EQU 5\n");
        fault(" STAX ^H\n");
        fault(" STAX ^SP\n");
        fault(" LDAX ^PSW\n");
        fault(" LXI ^PSW,1\n");
        fault(" INX ^PSW\n");
        fault(" PUSH ^SP\n");
        fault(" POP ^M\n");
        fault(" DAD ^A\n");
        for (String register : new String[] {"A", "C", "E", "L", "I", "BC"}) {
            fault(" INX ^" + register + "\n");
            fault(" PUSH ^" + register + "\n");
            fault(" LDAX ^" + register + "\n");
        }
        fault(" INR ^SP\n");
        fault(" MVI ^F,1\n");
        fault(" NOP ^A\n");
        fault(" INX B^,D\n");
        fault(" MOV A^\n");
        fault(" MOV A,^\n");
        fault(" MOV ^\n");
        fault(" MOV^");
    }

    /** A LABEL told twice (at it). */
    private static void labelsTwice() {
        fault("X\n^X\n");
        fault("X EQU 1\n^X EQU 1\n");
        fault("X\n^x: NOP\n");
        fault("X NOP\n NOP\n^X what\n");
        fault("X2345678\n^X2345678\n");
        gives("X NOP\nX2 NOP\n", "0000");
    }

    private static String labels(int count) {
        StringBuilder text = new StringBuilder();
        for (int i = 0; i < count; i++) {
            text.append("L").append(i).append(i % 3 == 0 ? " EQU 1\n" : i % 3 == 1 ? ":\n" : " DS 0\n");
        }
        return text.toString();
    }

    /** Or a 101st (at it). */
    private static void hundredLabels() {
        gives(labels(100) + " DW L99,L98\n", "01000001");
        fault(labels(100) + "^M\n");
        fault(labels(100) + " NOP\n^M: NOP\n");
        fault(labels(100) + "^L0\n");
        fault(labels(99) + "M\n^N\n");
        fault(labels(100) + " ^junk\nM\n");
        fault(labels(100) + "^M junk\n");
    }

    /** A byte not -256 .. 255 (as a number of 16 bits with sign or without; at its first sign). */
    private static void bytesOfNumbers() {
        gives(" DB 0,255,-1,-255,-256,65535,65280\n", "00FFFF0100FF00");
        for (String number : new String[] {"256", "-257", "65279", "32767", "-32768", "(256)", "+256", "255+1", "'a'*3", "$"}) {
            fault(" DB ^" + number + "\n");
            fault(" DB 1, ^" + number + " ,2\n");
            fault(" MVI M,^" + number + "\n");
            fault(" CPI ^" + number + "\n");
            fault(" OUT ^" + number + "\n");
        }
        gives(" MVI A,-256\n ADI 255\n IN -1\n", "3E00C6FFDBFF");
        gives(" DW 256,-257\n", "0001FFFE");
    }

    /** RST's operand not 0 .. 7. */
    private static void restarts() {
        gives(" RST 0\n RST 7\n RST 8-1\n RST 65536\n", "C7FFFFC7");
        for (String number : new String[] {"8", "-1", "65535", "9-1", "(8)", "256"}) {
            fault(" RST ^" + number + "\n");
        }
        fault(" RST ^\n");
    }

    /** First, of all lines, whichever comes first in the text. */
    private static void firstInTheText() {
        String[] first = {" MVI A^\n", "X\n^X\n", " ^WHAT\n", " ORG ^5\n", " DS ^NONE\n", " ^EQU 1\n", "L2345678^9\n", " DB '^'\n", " DW 1^2B\n"};
        String[] then = {" JMP NONE\n", " DB 256\n", " RST 8\n"};
        for (String fault : first) {
            for (String other : then) {
                fault(other + fault);
            }
            fault(fault + " ALSO\n");
        }
        fault(" JMP NONE\n ORG 58368\n ^NOP\n");
    }

    /** Then, line by line, in the order of the text. */
    private static void thenLineByLine() {
        fault(" JMP ^NONE\n DB 256\n RST 8\n");
        fault(" DB ^256\n JMP NONE\n RST 8\n");
        fault(" RST ^8\n JMP NONE\n DB 256\n");
        fault(" DB 1,^256,NONE\n");
        fault(" DB 1,^NONE,256\n");
        fault(" DB 256+^NONE\n");
        fault(" RST ^NONE\n");
        fault(" NOP\n DW 1,2,3+^X\n");
        fault("X EQU 256\n MVI A,^X\n");
        fault(" MVI A,^X\nX EQU 256\n");
    }

    /** END: nothing is read behind. */
    private static void endReadsNoMore() {
        gives(" NOP\n END\n WHAT ( '\n", "00");
        gives(" NOP\n END ) junk \r \0", "00");
        gives(" END", "");
        gives("X: END\n", "");
        gives(" DW X\nX END\nX\n", "0201");
        gives(" DS 2\n END\n DB 1\n", "0000");
        fault("X\n^X END\n");
        fault(" JMP ^NONE\n END\nNONE\n");
        fault(" ^ENDX\n");
    }
}
