import java.util.ArrayList;
import java.util.Arrays;
import java.util.HashMap;
import java.util.List;
import java.util.Map;

/** Part VI of the document once more: a tree of each number, read by recursion, reckoned when all LABELS are known. */
final class TwinAssembler {
    /** A FAULT at a place of the text. */
    static final class Fault extends RuntimeException {
        private static final long serialVersionUID = 1;
        final int place;

        Fault(int place) {
            super(null, null, false, false);
            this.place = place;
        }
    }

    interface Number {
        int value();
    }

    interface Later {
        void look();
    }

    private static final int END = 58368;
    private static final String CONDITIONS = "NZ Z NC C PO PE P M";
    private static final String PLAIN = "RLC 07 RRC 0F RAL 17 RAR 1F DAA 27 CMA 2F STC 37 CMC 3F "
        + "XTHL E3 XCHG EB PCHL E9 SPHL F9 DI F3 EI FB NOP 00 HLT 76 RET C9";
    private static final String ADDRESSED = "SHLD 22 LHLD 2A STA 32 LDA 3A JMP C3 CALL CD";
    private static final String WITH_BYTE = "ADI C6 ACI CE SUI D6 SBI DE ANI E6 XRI EE ORI F6 CPI FE OUT D3 IN DB";
    private static final String OF_REGISTER = "ADD 80 ADC 88 SUB 90 SBB 98 ANA A0 XRA A8 ORA B0 CMP B8";
    private static final String OF_PAIR = "INX 03 DCX 0B DAD 09";

    private final String text;
    private final Map<String, Integer> labels = new HashMap<>();
    private final List<Later> laters = new ArrayList<>();
    private final int[] image = new int[65536];
    private int p;
    private int address = 256;
    private int top = 256;
    private int begins;
    private int deep;

    private TwinAssembler(String text) {
        this.text = text;
    }

    /** The bytes, or null with the fault's place in at[0]. */
    static int[] translate(String text, int[] at) {
        TwinAssembler t = new TwinAssembler(text);
        try {
            boolean more = true;
            while (more && t.p < text.length()) {
                more = t.line();
            }
            for (Later l : t.laters) {
                l.look();
            }
            return Arrays.copyOfRange(t.image, 256, t.top);
        } catch (Fault f) {
            at[0] = f.place;
            return null;
        }
    }

    private int sign(int at) {
        return at < text.length() ? text.charAt(at) : -1;
    }

    private static boolean letter(int c) {
        return c >= 'A' && c <= 'Z' || c >= 'a' && c <= 'z';
    }

    private static boolean inWord(int c) {
        return letter(c) || c >= '0' && c <= '9';
    }

    private void blanks() {
        while (sign(p) == ' ' || sign(p) == 9 || sign(p) == 13 && sign(p + 1) == 10) {
            p++;
        }
    }

    private String word() {
        int from = p;
        while (inWord(sign(p))) {
            p++;
        }
        return text.substring(from, p).toUpperCase();
    }

    /** False behind END. */
    private boolean line() {
        begins = address;
        String label = null;
        if (letter(sign(p))) {
            int from = p;
            label = word();
            if (label.length() > 8) {
                throw new Fault(from + 8);
            }
            if (labels.containsKey(label) || labels.size() == 100) {
                throw new Fault(from);
            }
            p += sign(p) == ':' ? 1 : 0;
        }
        blanks();
        int means = begins;
        if (letter(sign(p))) {
            int at = p;
            String operation = word();
            if (operation.equals("END")) {
                if (label != null) {
                    labels.put(label, begins);
                }
                return false;
            }
            if (operation.equals("EQU")) {
                if (label == null) {
                    throw new Fault(at);
                }
                means = number(true).value();
            } else if (operation.equals("ORG")) {
                means = org();
            } else {
                operation(operation, at);
            }
        }
        if (label != null) {
            labels.put(label, means);
        }
        blanks();
        if (sign(p) == ';') {
            int next = text.indexOf('\n', p);
            p = next < 0 ? text.length() : next;
        }
        if (p < text.length()) {
            if (sign(p) != 10) {
                throw new Fault(p);
            }
            p++;
        }
        return true;
    }

    private int org() {
        blanks();
        int at = p;
        int value = number(true).value();
        if (value < address || value > END) {
            throw new Fault(at);
        }
        address = value;
        return value;
    }

    private static int coded(String table, String name) {
        String[] t = table.split(" ");
        for (int i = 0; i < t.length; i += 2) {
            if (t[i].equals(name)) {
                return Integer.parseInt(t[i + 1], 16);
            }
        }
        return -1;
    }

    private void operation(String name, int at) {
        if (name.equals("DS")) {
            blanks();
            int place = p;
            int count = number(true).value();
            if (address + count > END) {
                throw new Fault(place);
            }
            address += count;
            top = count > 0 ? address : top;
        } else if (name.equals("DB") || name.equals("DW")) {
            boolean words = name.equals("DW");
            do {
                blanks();
                if (words) {
                    bytes(at, number(false), 2, -1);
                } else {
                    item(at);
                }
                blanks();
            } while (sign(p) == ',' && p++ >= 0);
        } else if (coded(PLAIN, name) >= 0) {
            code(at, coded(PLAIN, name));
        } else if (coded(OF_REGISTER, name) >= 0) {
            code(at, coded(OF_REGISTER, name) + register());
        } else if (coded(OF_PAIR, name) >= 0) {
            code(at, coded(OF_PAIR, name) + 16 * pair("B D H SP"));
        } else if (coded(ADDRESSED, name) >= 0) {
            codeAnd(at, coded(ADDRESSED, name), 2);
        } else if (coded(WITH_BYTE, name) >= 0) {
            codeAnd(at, coded(WITH_BYTE, name), 1);
        } else {
            otherOperation(name, at);
        }
    }

    private void otherOperation(String name, int at) {
        switch (name) {
            case "MOV":
                int to = register();
                comma();
                blanks();
                int place = p;
                int from = register();
                if (to == 6 && from == 6) {
                    throw new Fault(place);
                }
                code(at, 0x40 + 8 * to + from);
                break;
            case "MVI":
                int into = register();
                comma();
                codeAnd(at, 6 + 8 * into, 1);
                break;
            case "LXI":
                int pair = pair("B D H SP");
                comma();
                codeAnd(at, 1 + 16 * pair, 2);
                break;
            case "STAX":
                code(at, 2 + 16 * pair("B D"));
                break;
            case "LDAX":
                code(at, 10 + 16 * pair("B D"));
                break;
            case "INR":
                code(at, 4 + 8 * register());
                break;
            case "DCR":
                code(at, 5 + 8 * register());
                break;
            case "PUSH":
                code(at, 0xC5 + 16 * pair("B D H PSW"));
                break;
            case "POP":
                code(at, 0xC1 + 16 * pair("B D H PSW"));
                break;
            case "RST":
                restart(at);
                break;
            default:
                conditional(name, at);
                break;
        }
    }

    private void conditional(String name, int at) {
        int c = Arrays.asList(CONDITIONS.split(" ")).indexOf(name.substring(1));
        char kind = name.charAt(0);
        if (c < 0 || "JCR".indexOf(kind) < 0) {
            throw new Fault(at);
        }
        if (kind == 'R') {
            code(at, 0xC0 + 8 * c);
        } else {
            codeAnd(at, (kind == 'J' ? 0xC2 : 0xC4) + 8 * c, 2);
        }
    }

    private int register() {
        blanks();
        int at = p;
        String w = word();
        int r = w.length() == 1 ? "BCDEHLMA".indexOf(w) : -1;
        if (r < 0) {
            throw new Fault(at);
        }
        return r;
    }

    private int pair(String names) {
        blanks();
        int at = p;
        int r = Arrays.asList(names.split(" ")).indexOf(word());
        if (r < 0) {
            throw new Fault(at);
        }
        return r;
    }

    private void comma() {
        blanks();
        if (sign(p) != ',') {
            throw new Fault(p);
        }
        p++;
    }

    private void put(int value) {
        image[address++] = value & 255;
        top = address;
    }

    private void room(int at, int count) {
        if (address + count > END) {
            throw new Fault(at);
        }
    }

    private void code(int at, int code) {
        room(at, 1);
        put(code);
    }

    private void codeAnd(int at, int code, int count) {
        blanks();
        int place = p;
        Number n = number(false);
        room(at, 1 + count);
        put(code);
        bytes(at, n, count, place);
    }

    /** Bytes of a number that is known later; a place where it is looked at whether it is a byte, or -1. */
    private void bytes(int at, Number n, int count, int place) {
        room(at, count);
        int to = address;
        for (int i = 0; i < count; i++) {
            put(0);
        }
        laters.add(() -> {
            int value = n.value();
            if (count == 1 && (value > 255 && value < 65536 - 256)) {
                throw new Fault(place);
            }
            image[to] = value & 255;
            if (count == 2) {
                image[to + 1] = value >> 8;
            }
        });
    }

    private void restart(int at) {
        blanks();
        int place = p;
        Number n = number(false);
        code(at, 0xC7);
        int to = address - 1;
        laters.add(() -> {
            int value = n.value();
            if (value > 7) {
                throw new Fault(place);
            }
            image[to] += 8 * value;
        });
    }

    /** An item of DB. */
    private void item(int at) {
        int from = p;
        if (sign(p) == '\'') {
            StringBuilder signs = new StringBuilder();
            p++;
            while (sign(p) >= 32 && sign(p) <= 126 && (sign(p) != '\'' || sign(p + 1) == '\'')) {
                signs.append((char) sign(p));
                p += sign(p) == '\'' ? 2 : 1;
            }
            if (sign(p) != '\'' || signs.length() == 0) {
                throw new Fault(p);
            }
            p++;
            if (signs.length() > 1) {
                room(at, signs.length());
                for (char c : signs.toString().toCharArray()) {
                    put(c);
                }
                return;
            }
            p = from;
        }
        bytes(at, number(false), 1, from);
    }

    // ---- numbers; strict: LABELS must be told above

    private Number number(boolean strict) {
        blanks();
        deep = 0;
        return sum(strict);
    }

    private Number sum(boolean strict) {
        Number left = product(strict);
        blanks();
        while (sign(p) == '+' || sign(p) == '-') {
            int way = sign(p) == '+' ? 1 : -1;
            p++;
            Number a = left;
            Number b = product(strict);
            left = () -> a.value() + way * b.value() & 65535;
            blanks();
        }
        return left;
    }

    private Number product(boolean strict) {
        Number left = signed(strict);
        blanks();
        while (sign(p) == '*' || sign(p) == '/') {
            boolean times = sign(p) == '*';
            p++;
            Number a = left;
            Number b = signed(strict);
            left = () -> {
                long x = a.value();
                long y = b.value();
                return (int) (times ? x * y % 65536 : y == 0 ? 0 : x / y);
            };
            blanks();
        }
        return left;
    }

    private Number signed(boolean strict) {
        blanks();
        boolean minus = false;
        while (sign(p) == '+' || sign(p) == '-') {
            minus = minus != (sign(p) == '-');
            p++;
            blanks();
        }
        Number n = part(strict);
        if (minus) {
            return () -> -n.value() & 65535;
        }
        return n;
    }

    private Number part(boolean strict) {
        int c = sign(p);
        int at = p;
        if (c == '(') {
            if (deep == 100) {
                throw new Fault(p);
            }
            deep++;
            p++;
            Number n = sum(strict);
            blanks();
            if (sign(p) != ')') {
                throw new Fault(p);
            }
            p++;
            deep--;
            return n;
        }
        if (c == '\'') {
            return known(quoted());
        }
        if (c == '$') {
            p++;
            return known(begins);
        }
        if (!inWord(c)) {
            throw new Fault(p);
        }
        String w = word();
        if (!letter(c)) {
            return known(digits(w, at));
        }
        if (strict && !labels.containsKey(w)) {
            throw new Fault(at);
        }
        return () -> {
            if (!labels.containsKey(w)) {
                throw new Fault(at);
            }
            return labels.get(w);
        };
    }

    private static Number known(int value) {
        return () -> value;
    }

    private int quoted() {
        p++;
        int c = sign(p);
        if (c < 32 || c > 126 || c == '\'' && sign(p + 1) != '\'') {
            throw new Fault(p);
        }
        p += c == '\'' ? 2 : 1;
        if (sign(p) != '\'') {
            throw new Fault(p);
        }
        p++;
        return c;
    }

    private static int digits(String w, int at) {
        char last = w.charAt(w.length() - 1);
        int base = last == 'H' ? 16 : last == 'B' ? 2 : last == 'O' || last == 'Q' ? 8 : 10;
        int count = "HBOQD".indexOf(last) >= 0 ? w.length() - 1 : w.length();
        int value = 0;
        for (int i = 0; i < count; i++) {
            int digit = "0123456789ABCDEFGHIJKLMNOPQRSTUVWXYZ".indexOf(w.charAt(i));
            if (digit >= base) {
                throw new Fault(at + i);
            }
            value = (value * base + digit) % 65536;
        }
        return value;
    }
}
