import java.util.Random;

/** Random texts, most of them nearly right, against a second assembler that was written anew from Part VI. */
public final class TwinAssemblerTest {
    private static final String[] REGISTERS = {"A", "B", "c", "M", "m", "L", "H", "D", "E", "SP", "PSW", "X", "AB", ""};
    private static final String[] PAIRS = {"B", "D", "H", "SP", "psw", "A", "BC", ""};
    private static final String[] NO_OPERAND = {
        "NOP", "HLT", "ret", "RLC", "DAA", "RNZ", "RZ", "RM", "RPO", "XCHG", "DI", "EI", "CMC"};
    private static final String[] OF_BYTE = {"ADI", "ACI", "SUI", "SBI", "ANI", "XRI", "ORI", "cpi", "OUT", "IN", "RST"};
    private static final String[] OF_WORD = {
        "JMP", "CALL", "JNZ", "CZ", "JC", "CNC", "JPE", "CP", "JM", "STA", "LDA", "SHLD", "LHLD"};
    private static final String[] OF_REGISTER = {"ADD", "ADC", "SUB", "SBB", "ANA", "XRA", "ORA", "CMP", "INR", "DCR"};
    private static final String[] OF_PAIR = {"INX", "DCX", "DAD", "PUSH", "POP", "STAX", "LDAX"};
    private static final String[] LABELS = {
        "L", "A", "MOV", "X1", "L2", "LONGNAME", "LONGNAMES", "l", "q", "END", "B0", "H"};
    private static final String[] NUMBERS = {
        "0", "1", "7", "8", "255", "256", "65535", "65536", "0FFH", "0ffffh", "1010B", "17O", "18Q", "12D", "0AH", "0A",
        "0GH", "12B", "9Z", "1H", "'a'", "''''", "''", "'ab'", "'", "'''", "$", "58000", "58367", "58368", "58369", "65280",
        "65279", "-256", "-257", "123456789012", "00000000000000001H", "0B", "0D", "0H", "B", "D"};
    private static final String[] TEXTS = {
        "'text'", "'it''s'", "''''''", "'A;b'", "'a'", "'a'+1", "'ab'+1", "'open", "'a''", "'\t'", "'ab\u0080'"};
    private static final String[] JOINTS = {"+", "-", "*", "/", "+", "-", "*", "/", "--", "*-", "/+"};

    private final Random random;

    private TwinAssemblerTest(long seed) {
        random = new Random(seed);
    }

    public static void main(String[] args) {
        int texts = args.length > 1 ? Integer.parseInt(args[1]) : 8000;
        long from = args.length > 2 ? Long.parseLong(args[2]) : 1;
        MonitorBoard board = new MonitorBoard();
        int right = 0;
        for (long seed = from; seed < from + texts; seed++) {
            String text = new TwinAssemblerTest(seed).text();
            if (text.length() > 4000) {
                text = text.substring(0, 4000);
            }
            right += same(board, text, seed) ? 1 : 0;
        }
        System.out.println(right + " of " + texts + " texts have no fault");
        Kit.finish();
    }

    private static boolean same(MonitorBoard board, String text, long seed) {
        int[] fault = new int[1];
        int[] bytes = TwinAssembler.translate(text, fault);
        int got = Kit.assemble(board, text);
        int want = bytes == null ? -1 - fault[0] : bytes.length;
        Kit.due("text " + seed + (got == want ? "" : ": " + Kit.shown(text)), got, want);
        for (int i = 0; bytes != null && got == want && i < bytes.length; i++) {
            if (board.out(i) != bytes[i]) {
                Kit.due("text " + seed + ", byte " + i + ": " + Kit.shown(text), board.out(i), bytes[i]);
                break;
            }
        }
        Kit.due("behind the last of text " + seed, board.out(Math.max(want, 0)), -1);
        return bytes != null;
    }

    private String one(String[] row) {
        return row[random.nextInt(row.length)];
    }

    /** One of the first few mostly, so that most texts go on. */
    private String early(String[] row, int few) {
        return chance(97) ? row[random.nextInt(few)] : one(row);
    }

    private boolean chance(int percent) {
        return random.nextInt(100) < percent;
    }

    private String text() {
        StringBuilder b = new StringBuilder();
        if (chance(2)) {
            manyLabels(b);
        }
        int lines = random.nextInt(12);
        for (int i = 0; i < lines; i++) {
            line(b, i);
            b.append(chance(90) ? "\n" : "\r\n");
        }
        if (chance(20) && b.length() > 0) {
            b.setLength(b.length() - 1);
        }
        if (chance(15) && b.length() > 0) {
            String signs = " \t\r\n;:,'()+-*/$0AZaz@\0\u0080\u007f~";
            b.setCharAt(random.nextInt(b.length()), signs.charAt(random.nextInt(signs.length())));
        }
        return b.toString();
    }

    private void manyLabels(StringBuilder b) {
        int count = 95 + random.nextInt(8);
        for (int i = 0; i < count; i++) {
            b.append("Z").append(i).append(chance(50) ? ":" : "").append('\n');
        }
    }

    private void line(StringBuilder b, int number) {
        if (chance(30)) {
            b.append(chance(70) ? "K" + number : one(LABELS)).append(chance(40) ? ":" : "");
        }
        if (chance(8)) {
            b.append(chance(50) ? " " : "").append("; it's a comment");
            return;
        }
        b.append(chance(90) ? " " : chance(50) ? "\t" : "");
        int kind = random.nextInt(13);
        switch (kind) {
            case 0:
                b.append(one(NO_OPERAND));
                break;
            case 1:
                b.append(one(OF_BYTE)).append(' ').append(sum(2));
                break;
            case 2:
                b.append(one(OF_WORD)).append(' ').append(sum(3));
                break;
            case 3:
                b.append(one(OF_REGISTER)).append(' ').append(early(REGISTERS, 9));
                break;
            case 4:
                b.append(one(OF_PAIR)).append(' ').append(early(PAIRS, 2));
                break;
            case 5:
                b.append("MOV ").append(early(REGISTERS, 9)).append(comma()).append(early(REGISTERS, 9));
                break;
            case 6:
                b.append("MVI ").append(early(REGISTERS, 9)).append(comma()).append(sum(2));
                break;
            case 7:
                b.append("LXI ").append(early(PAIRS, 4)).append(comma()).append(sum(3));
                break;
            case 8:
                items(b, "DB ");
                break;
            case 9:
                items(b, "DW ");
                break;
            case 10:
                b.append(chance(60) ? "DS " : "ds ").append(chance(80) ? "" + random.nextInt(300) : sum(2));
                break;
            case 11:
                b.append("ORG ").append(chance(50) ? "$+" + random.nextInt(200) : chance(30) ? "" + last() : sum(2));
                break;
            default:
                b.append(chance(60) ? "EQU " + sum(2) : chance(10) ? "END anything" : chance(10) ? "NOPE 1" : "");
                break;
        }
        if (chance(4)) {
            b.append(one(new String[] {" ", ",", " X", ";c", " ; c", ")", "\t", " 1"}));
        }
    }

    /** Around the last address. */
    private int last() {
        return 58360 + random.nextInt(10);
    }

    private String comma() {
        return chance(97) ? chance(80) ? "," : " , " : one(new String[] {"", " ", ",,", ";"});
    }

    private void items(StringBuilder b, String name) {
        b.append(name);
        int count = 1 + random.nextInt(4);
        for (int i = 0; i < count; i++) {
            b.append(i > 0 ? comma() : "");
            if (name.equals("DB ") && chance(40)) {
                b.append(one(TEXTS));
            } else {
                b.append(sum(2));
            }
        }
    }

    private String sum(int depth) {
        if (chance(1) && chance(30)) {
            int deep = 98 + random.nextInt(5);
            return "(".repeat(deep) + "1" + ")".repeat(chance(80) ? deep : deep - 1);
        }
        StringBuilder b = new StringBuilder(part(depth));
        int more = chance(60) ? 0 : random.nextInt(4);
        for (int i = 0; i < more; i++) {
            b.append(chance(20) ? " " : "").append(one(JOINTS));
            b.append(part(depth));
        }
        return b.toString();
    }

    private String part(int depth) {
        int n = random.nextInt(100);
        if (n < 15 && depth > 0) {
            return "(" + sum(depth - 1) + ")";
        }
        if (n < 20) {
            return one(new String[] {"-", "+", "- -", "+-"}) + part(depth);
        }
        if (n < 35) {
            return "K" + random.nextInt(12);
        }
        if (n < 37) {
            return one(LABELS);
        }
        return chance(70) ? "" + random.nextInt(8) : chance(60) ? NUMBERS[random.nextInt(10)] : one(NUMBERS);
    }
}
