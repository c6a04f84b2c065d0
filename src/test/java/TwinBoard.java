import java.util.ArrayDeque;
import java.util.ArrayList;
import java.util.Arrays;
import java.util.List;
import java.util.TreeSet;

/** Parts II to V of the document once more, by themselves: MEMORY, disks, BIOS, calls and the command line, no processor. */
final class TwinBoard {
    static final int WAITS = -1;
    static final int BOOTED = -2;

    /** The 36 bytes of an FCB, wherever they are. */
    interface Fcb {
        int get(int k);

        void set(int k, int value);
    }

    static final class OwnFcb implements Fcb {
        final int[] bytes = new int[36];

        public int get(int k) {
            return bytes[k];
        }

        public void set(int k, int value) {
            bytes[k] = value & 255;
        }
    }

    final class MemoryFcb implements Fcb {
        final int at;

        MemoryFcb(int at) {
            this.at = at;
        }

        public int get(int k) {
            return memory[at + k & 65535];
        }

        public void set(int k, int value) {
            memory[at + k & 65535] = value & 255;
        }
    }

    /** A word of a line as a FILE. */
    static final class Named {
        int drive;
        final char[] name = "           ".toCharArray();
        boolean bad;
        boolean star;

        boolean any() {
            return new String(name).indexOf('?') >= 0;
        }

        String type() {
            return new String(name, 8, 3);
        }

        Fcb fcb() {
            OwnFcb f = new OwnFcb();
            f.bytes[0] = drive;
            for (int k = 0; k < 11; k++) {
                f.bytes[1 + k] = name[k];
            }
            return f;
        }
    }

    final int[] memory = new int[65536];
    final int[][][][] disks = new int[2][77][27][128];
    final StringBuilder told = new StringBuilder();
    final ArrayDeque<Integer> keys = new ArrayDeque<>();
    final boolean[] logged = new boolean[2];
    final boolean[] onlyRead = new boolean[2];
    final List<TreeSet<Integer>> use = new ArrayList<>();
    int user;
    int hand;
    int data;
    int biosDrive;
    int biosTrack;
    int biosSector;
    int hl;
    int a;
    long states;
    boolean atCommand;
    boolean started;
    int[] sought;
    int soughtDrive;
    int soughtLast;
    boolean soughtOver;
    List<Integer> line;
    int lineMost;

    TwinBoard() {
        for (int[][][] disk : disks) {
            for (int[][] track : disk) {
                for (int[] sector : track) {
                    Arrays.fill(sector, 0xE5);
                }
            }
        }
        use.add(new TreeSet<>());
        use.add(new TreeSet<>());
        cold();
    }

    void tell(int sign) {
        told.append((char) (sign & 255));
    }

    void tell(String text) {
        told.append(text);
    }

    // ---- boots

    void cold() {
        Arrays.fill(memory, 0);
        logged[0] = false;
        logged[1] = false;
        onlyRead[0] = false;
        onlyRead[1] = false;
        user = 0;
        hand = 0;
        biosDrive = 0;
        biosTrack = 0;
        biosSector = 1;
        keys.clear();
        tell("\r\n62K");
        warm();
    }

    void warm() {
        int[] low = {0xC3, 0x03, 0xEC};
        int[] high = {0xC3, 0x06, 0xEE};
        for (int i = 0; i < 3; i++) {
            memory[i] = low[i];
            memory[5 + i] = high[i];
        }
        logged[0] = false;
        logged[1] = false;
        sought = null;
        logIn(hand);
        data = 128;
        prompt();
    }

    void prompt() {
        atCommand = true;
        started = false;
        tell("\r\n" + (char) ('A' + hand) + (user == 0 ? "" : "" + user) + ">");
        line = new ArrayList<>();
        lineMost = 127;
    }

    int error(String kind, int drive) {
        tell("\r\nBdos Err On ");
        tell('A' + drive);
        tell(": " + kind);
        warm();
        return BOOTED;
    }

    // ---- disks

    int[] record(int d, int number) {
        int r = number % 26;
        return disks[d][2 + number / 26][1 + (6 * r + r / 13) % 26];
    }

    int entry(int d, int e, int k) {
        return record(d, e / 4)[e % 4 * 32 + k];
    }

    void setEntry(int d, int e, int k, int value) {
        record(d, e / 4)[e % 4 * 32 + k] = value & 255;
    }

    void logIn(int d) {
        if (logged[d]) {
            return;
        }
        logged[d] = true;
        TreeSet<Integer> u = use.get(d);
        u.clear();
        u.add(0);
        u.add(1);
        for (int e = 0; e < 64; e++) {
            for (int k = 16; k < 32 && entry(d, e, 0) != 0xE5; k++) {
                if (entry(d, e, k) <= 242) {
                    u.add(entry(d, e, k));
                }
            }
        }
    }

    boolean sameName(int d, int e, Fcb f, boolean any) {
        for (int k = 1; k <= 11; k++) {
            int want = f.get(k) % 128;
            if (want != entry(d, e, k) % 128 && !(any && want == '?')) {
                return false;
            }
        }
        return true;
    }

    /** ENTRIES of this USER with the name of an FCB. */
    List<Integer> entries(int d, Fcb f, boolean any) {
        List<Integer> found = new ArrayList<>();
        for (int e = 0; e < 64; e++) {
            if (entry(d, e, 0) == user && sameName(d, e, f, any)) {
                found.add(e);
            }
        }
        return found;
    }

    int extentEntry(int d, Fcb f, int extent) {
        for (int e : entries(d, f, false)) {
            if (entry(d, e, 12) == extent) {
                return e;
            }
        }
        return -1;
    }

    int open(int d, Fcb f, int extent) {
        int e = extentEntry(d, f, extent);
        for (int k = 12; k < 32 && e >= 0; k++) {
            f.set(k, entry(d, e, k));
        }
        return e;
    }

    int make(int d, Fcb f, int extent) {
        for (int e = 0; e < 64; e++) {
            if (entry(d, e, 0) == 0xE5) {
                setEntry(d, e, 0, user);
                for (int k = 1; k < 32; k++) {
                    setEntry(d, e, k, k < 12 ? f.get(k) & 127 : 0);
                }
                setEntry(d, e, 12, extent);
                for (int k = 12; k < 32; k++) {
                    f.set(k, k == 12 ? extent : 0);
                }
                return e;
            }
        }
        return -1;
    }

    int close(int d, Fcb f) {
        int e = extentEntry(d, f, f.get(12) % 32);
        for (int k = 15; k < 32 && e >= 0; k++) {
            setEntry(d, e, k, f.get(k));
        }
        return e;
    }

    void delete(int d, Fcb f) {
        for (int e : entries(d, f, true)) {
            setEntry(d, e, 0, 0xE5);
            for (int k = 16; k < 32; k++) {
                if (entry(d, e, k) > 1) {
                    use.get(d).remove(entry(d, e, k));
                }
            }
        }
    }

    int newBlock(int d) {
        for (int b = 0; b <= 242; b++) {
            if (!use.get(d).contains(b)) {
                use.get(d).add(b);
                return b;
            }
        }
        return 0;
    }

    int records(int d, Fcb f) {
        int most = 0;
        for (int e : entries(d, f, false)) {
            most = Math.max(most, entry(d, e, 12) * 128 + entry(d, e, 15));
        }
        return most;
    }

    // ---- the BIOS

    /** A routine of the BIOS; a and hl are the registers that it may change. */
    int bios(int k, int bc) {
        int c = bc & 255;
        switch (k) {
            case 0:
                states += 50;
                cold();
                return BOOTED;
            case 1:
                states += 50;
                warm();
                return BOOTED;
            case 2:
                a = keys.isEmpty() ? 0 : 255;
                break;
            case 3:
                if (keys.isEmpty()) {
                    return WAITS;
                }
                a = keys.poll() % 128;
                break;
            case 4:
                tell(c % 128);
                break;
            case 7:
                a = 26;
                break;
            case 8:
                biosTrack = 0;
                break;
            case 9:
                hl = c < 2 ? 0xF000 + 16 * c : 0;
                biosDrive = c < 2 ? c : biosDrive;
                break;
            case 10:
                biosTrack = bc;
                break;
            case 11:
                biosSector = bc;
                break;
            case 12:
                data = bc;
                break;
            case 13:
            case 14:
                a = biosTrack < 77 && biosSector >= 1 && biosSector <= 26 ? 0 : 1;
                for (int i = 0; i < 128 && a == 0; i++) {
                    if (k == 13) {
                        memory[data + i & 65535] = disks[biosDrive][biosTrack][biosSector][i];
                    } else {
                        disks[biosDrive][biosTrack][biosSector][i] = memory[data + i & 65535];
                    }
                }
                break;
            case 15:
                a = 0;
                break;
            case 16:
                hl = bc <= 25 ? 1 + (6 * bc + bc / 13) % 26 : 0;
                break;
            default:
                break;
        }
        states += 50;
        return 0;
    }

    // ---- the calls

    /** A call: its result (HL), or that it WAITS, or that it ended in a boot. */
    int call(int c, int de) {
        int answer = c == 10 ? readLine(de) : perform(c, de);
        if (answer != WAITS) {
            states += 50;
        }
        if (answer == BOOTED || answer == WAITS) {
            return answer;
        }
        hl = answer;
        a = answer & 255;
        return answer;
    }

    private int perform(int c, int de) {
        int e = de & 255;
        switch (c) {
            case 0:
                warm();
                return BOOTED;
            case 1:
                if (keys.isEmpty()) {
                    return WAITS;
                }
                int key = keys.poll() % 128;
                tell(key);
                return key;
            case 2:
                tell(e % 128);
                return 0;
            case 3:
                return 26;
            case 6:
                if (e == 255) {
                    return keys.isEmpty() ? 0 : keys.poll() % 128;
                }
                if (e == 254) {
                    return keys.isEmpty() ? 0 : 255;
                }
                tell(e % 128);
                return 0;
            case 7:
                return memory[3];
            case 8:
                memory[3] = e;
                return 0;
            case 9:
                for (int i = 0; i < 65536 && memory[de + i & 65535] != '$'; i++) {
                    tell(memory[de + i & 65535] % 128);
                    states++;
                }
                return 0;
            case 11:
                return keys.isEmpty() ? 0 : 255;
            case 12:
                return 34;
            case 13:
                logged[0] = false;
                logged[1] = false;
                onlyRead[0] = false;
                onlyRead[1] = false;
                hand = 0;
                data = 128;
                logIn(0);
                return 0;
            case 14:
                if (e > 1) {
                    return error("Select", e);
                }
                hand = e;
                logIn(e);
                return 0;
            case 24:
                return (logged[0] ? 1 : 0) + (logged[1] ? 2 : 0);
            case 25:
                return hand;
            case 26:
                data = de;
                return 0;
            case 27:
                logIn(hand);
                for (int i = 0; i < 31; i++) {
                    memory[61472 + i] = 0;
                }
                for (int b : use.get(hand)) {
                    memory[61472 + b / 8] |= 128 >> b % 8;
                }
                return 61472;
            case 28:
                onlyRead[hand] = true;
                return 0;
            case 29:
                return (onlyRead[0] ? 1 : 0) + (onlyRead[1] ? 2 : 0);
            case 31:
                int[] facts = {26, 0, 3, 7, 0, 242, 0, 63, 0, 192, 0, 16, 0, 2, 0};
                System.arraycopy(facts, 0, memory, 61504, facts.length);
                return 61504;
            case 32:
                if (e == 255) {
                    return user;
                }
                user = e % 32;
                return 0;
            case 37:
                for (int d = 0; d < 2; d++) {
                    if ((de >> d) % 2 == 1) {
                        logged[d] = false;
                        onlyRead[d] = false;
                    }
                }
                return 0;
            case 36:
                setR(new MemoryFcb(de), new MemoryFcb(de).get(12) * 128 + new MemoryFcb(de).get(32));
                return 0;
            case 18:
                return next();
            case 15: case 16: case 17: case 19: case 20: case 21: case 22: case 23: case 30: case 33: case 34: case 35:
            case 40:
                return fileCall(c, new MemoryFcb(de));
            default:
                return 0;
        }
    }

    private void setR(Fcb f, int r) {
        f.set(33, r);
        f.set(34, r >> 8);
        f.set(35, r >> 16);
    }

    private static int told4(int e) {
        return e < 0 ? 255 : e % 4;
    }

    int fileCall(int c, Fcb f) {
        int letter = f.get(0);
        int d = letter == 0 || c == 17 && letter == '?' ? hand : letter - 1;
        if (d > 1) {
            return error("Select", d);
        }
        logIn(d);
        boolean writes = c == 19 || c == 21 || c == 22 || c == 23 || c == 30 || c == 34 || c == 40;
        if (writes && onlyRead[d]) {
            return error("R/O", d);
        }
        if (c == 19 || c == 21 || c == 23 || c == 34 || c == 40) {
            List<Integer> found = entries(d, f, c == 19);
            if (!found.isEmpty() && entry(d, found.get(0), 9) >= 128) {
                return error("File R/O", d);
            }
        }
        switch (c) {
            case 15:
                return told4(open(d, f, f.get(12) % 32));
            case 16:
                int old = extentEntry(d, f, f.get(12) % 32);
                for (int k = 15; k < 32 && old >= 0; k++) {
                    if (entry(d, old, k) != f.get(k) && onlyRead[d]) {
                        return error("R/O", d);
                    }
                }
                return told4(close(d, f));
            case 17:
                sought = new int[13];
                for (int k = 0; k < 13; k++) {
                    sought[k] = f.get(k);
                }
                soughtDrive = d;
                soughtLast = -1;
                soughtOver = false;
                return next();
            case 19:
                boolean some = !entries(d, f, true).isEmpty();
                delete(d, f);
                return some ? 0 : 255;
            case 20:
                return read(d, f);
            case 21:
                return write(d, f);
            case 22:
                return told4(make(d, f, f.get(12) % 32));
            case 23:
            case 30:
                List<Integer> all = entries(d, f, false);
                for (int e : all) {
                    for (int k = 1; k <= 11; k++) {
                        setEntry(d, e, k, c == 23 ? f.get(16 + k) % 128 : f.get(k));
                    }
                }
                return all.isEmpty() ? 255 : 0;
            case 35:
                setR(f, records(d, f));
                return 0;
            default:
                return atR(c, d, f);
        }
    }

    private int next() {
        if (sought == null) {
            return 255;
        }
        logIn(soughtDrive);
        if (soughtOver) {
            return 255;
        }
        OwnFcb f = new OwnFcb();
        System.arraycopy(sought, 0, f.bytes, 0, 13);
        for (int e = soughtLast + 1; e < 64; e++) {
            boolean extent = sought[12] == '?' || entry(soughtDrive, e, 12) == sought[12] % 32;
            boolean like = entry(soughtDrive, e, 0) == user && extent && sameName(soughtDrive, e, f, true);
            if (like || sought[0] == '?') {
                soughtLast = e;
                toData(record(soughtDrive, e / 4));
                return e % 4;
            }
        }
        soughtOver = true;
        return 255;
    }

    private void toData(int[] sector) {
        for (int i = 0; i < 128; i++) {
            memory[data + i & 65535] = sector[i];
        }
    }

    private void fromData(int[] sector) {
        for (int i = 0; i < 128; i++) {
            sector[i] = memory[data + i & 65535];
        }
    }

    private int[] readable(int d, Fcb f) {
        int cr = f.get(32);
        if (cr >= 128 || cr >= f.get(15)) {
            return null;
        }
        int block = f.get(16 + cr / 8);
        return block == 0 || block > 242 ? null : record(d, block * 8 + cr % 8);
    }

    private int read(int d, Fcb f) {
        if (f.get(32) == 128) {
            int next = f.get(12) + 1;
            if (next > 31 || open(d, f, next) < 0) {
                return 1;
            }
            f.set(32, 0);
        }
        int[] sector = readable(d, f);
        if (sector == null) {
            return 1;
        }
        toData(sector);
        f.set(32, f.get(32) + 1);
        return 0;
    }

    private int[] writable(int d, Fcb f, boolean zeros) {
        int cr = f.get(32);
        int at = 16 + cr / 8;
        if (f.get(at) == 0) {
            f.set(at, newBlock(d));
            for (int r = 0; r < 8 && zeros && f.get(at) != 0; r++) {
                Arrays.fill(record(d, f.get(at) * 8 + r), 0);
            }
        }
        return f.get(at) == 0 || f.get(at) > 242 ? null : record(d, f.get(at) * 8 + cr % 8);
    }

    /** The next EXTENT for WRITE at CR 128; the answer, if there is one already. */
    private int turnOver(int d, Fcb f) {
        if (f.get(32) == 128) {
            close(d, f);
            int next = f.get(12) + 1;
            if (next > 31 || open(d, f, next) < 0 && make(d, f, next) < 0) {
                return 1;
            }
            f.set(32, 0);
        }
        return f.get(32) > 128 ? 1 : 0;
    }

    private void grow(Fcb f) {
        if (f.get(15) <= f.get(32)) {
            f.set(15, f.get(32) + 1);
        }
    }

    private int write(int d, Fcb f) {
        if (turnOver(d, f) != 0) {
            return 1;
        }
        int[] sector = writable(d, f, false);
        if (sector == null) {
            return 2;
        }
        fromData(sector);
        grow(f);
        f.set(32, f.get(32) + 1);
        return 0;
    }

    private int atR(int c, int d, Fcb f) {
        int r = f.get(33) + 256 * f.get(34) + 65536 * f.get(35);
        if (r > 4095) {
            return 6;
        }
        int answer = 0;
        if (f.get(12) != r / 128) {
            if (c != 33) {
                close(d, f);
            }
            if (open(d, f, r / 128) < 0) {
                answer = c == 33 ? 4 : make(d, f, r / 128) < 0 ? 5 : 0;
            }
        }
        f.set(12, r / 128);
        f.set(32, r % 128);
        if (answer != 0) {
            return answer;
        }
        int[] sector = c == 33 ? readable(d, f) : writable(d, f, c == 40);
        if (sector == null) {
            return c == 33 ? 1 : 2;
        }
        if (c == 33) {
            toData(sector);
        } else {
            fromData(sector);
            grow(f);
        }
        return 0;
    }

    // ---- lines

    /** Call 10. */
    private int readLine(int de) {
        if (line == null) {
            if (memory[de] == 0) {
                return 0;
            }
            line = new ArrayList<>();
            lineMost = memory[de];
        }
        int got = takeKeys();
        if (got == WAITS) {
            return WAITS;
        }
        if (got == BOOTED) {
            warm();
            return BOOTED;
        }
        memory[de + 1 & 65535] = line.size();
        for (int i = 0; i < line.size(); i++) {
            memory[de + 2 + i & 65535] = line.get(i);
        }
        line = null;
        return 0;
    }

    private int takeKeys() {
        while (!keys.isEmpty()) {
            int key = keys.poll() & 127;
            if (key == 13 || key == 10) {
                tell(13);
                return 0;
            } else if (key == 8 || key == 127) {
                if (!line.isEmpty()) {
                    line.remove(line.size() - 1);
                    tell("\b \b");
                }
            } else if (key == 3 && line.isEmpty()) {
                return BOOTED;
            } else {
                line.add(key);
                tell(key < 32 ? "^" + (char) (key + 64) : "" + (char) key);
                if (line.size() == lineMost) {
                    tell(13);
                    return 0;
                }
            }
        }
        return WAITS;
    }

    // ---- the command line

    /** Does lines until no key waits or a program began. */
    void command() {
        while (atCommand) {
            int got = takeKeys();
            if (got == WAITS) {
                return;
            }
            if (got == BOOTED) {
                warm();
                continue;
            }
            StringBuilder text = new StringBuilder();
            for (int key : line) {
                text.append((char) (key >= 'a' && key <= 'z' ? key - 32 : key));
            }
            Integer booted = doLine(text.toString());
            if (booted == null) {
                atCommand = false;
                started = true;
                line = null;
            } else if (booted == 0) {
                prompt();
            }
        }
    }

    /** 0 done; BOOTED; null when a program began. */
    private Integer doLine(String text) {
        String rest = text.replaceAll("^ +", "");
        if (rest.isEmpty()) {
            return 0;
        }
        int end = 0;
        while (end < rest.length() && rest.charAt(end) != ' ' && rest.charAt(end) != '=') {
            end++;
        }
        String first = rest.substring(0, end);
        String tail = rest.substring(end);
        List<String> words = new ArrayList<>();
        for (String w : tail.replace("=", " = ").split(" ")) {
            if (!w.isEmpty()) {
                words.add(w);
            }
        }
        String said;
        switch (first) {
            case "DIR":
                said = dir(words);
                break;
            case "ERA":
                said = era(words);
                break;
            case "REN":
                said = ren(words);
                break;
            case "TYPE":
            case "DUMP":
                said = type(words, first.equals("DUMP"));
                break;
            case "SAVE":
                said = save(words);
                break;
            case "USER":
                said = words.size() == 1 && words.get(0).matches("0*([0-9]|1[0-5])") ? "" : null;
                user = said == null ? user : Integer.parseInt(words.get(0));
                break;
            case "STAT":
                said = stat(words);
                break;
            case "COPY":
                said = copy(words);
                break;
            case "HEXLOAD":
                said = hexload(words);
                break;
            default:
                if ((first.equals("A:") || first.equals("B:")) && words.isEmpty()) {
                    hand = first.charAt(0) - 'A';
                    logIn(hand);
                    return 0;
                }
                said = program(first, tail, words);
                if (said != null && said.equals("began")) {
                    return null;
                }
                break;
        }
        if (said == null) {
            tell("\r\n" + first + "?");
        } else if (said.equals("booted")) {
            return BOOTED;
        } else if (!said.isEmpty()) {
            tell("\r\n" + said);
        }
        return 0;
    }

    static Named named(String word) {
        Named n = new Named();
        String rest = word;
        if (word.isEmpty()) {
            n.bad = true;
            return n;
        }
        if (word.length() > 1 && word.charAt(1) == ':') {
            if (word.charAt(0) != 'A' && word.charAt(0) != 'B') {
                n.bad = true;
                return n;
            }
            n.drive = word.charAt(0) - 'A' + 1;
            rest = word.substring(2);
        }
        int dot = rest.indexOf('.');
        fill(n, dot < 0 ? rest : rest.substring(0, dot), 0, 8);
        if (dot >= 0 && !n.bad) {
            fill(n, rest.substring(dot + 1), 8, 11);
        }
        return n;
    }

    private static void fill(Named n, String part, int from, int to) {
        int at = from;
        for (char c : part.toCharArray()) {
            if (c == '*') {
                n.star = true;
                Arrays.fill(n.name, at, to, '?');
                at = to;
            } else if (c <= 32 || ".:;,=<>[]".indexOf(c) >= 0 || at == to) {
                n.bad = true;
                return;
            } else {
                n.name[at++] = c;
            }
        }
    }

    private int driveOf(Named n) {
        return n.drive == 0 ? hand : n.drive - 1;
    }

    private Named only(List<String> words, boolean anyFits) {
        if (words.size() != 1 || words.get(0).equals("=")) {
            return null;
        }
        Named n = named(words.get(0));
        return n.bad || !anyFits && n.any() ? null : n;
    }

    private String shownName(int d, int e) {
        StringBuilder b = new StringBuilder();
        for (int k = 1; k <= 11; k++) {
            b.append(k == 9 ? " " : "").append((char) (entry(d, e, k) % 128));
        }
        return b.toString();
    }

    private String dir(List<String> words) {
        Named n = words.isEmpty() ? named("*.*") : only(words, true);
        if (n == null) {
            return null;
        }
        if (new String(n.name).isBlank()) {
            Arrays.fill(n.name, '?');
        }
        int d = driveOf(n);
        logIn(d);
        int count = 0;
        for (int e : entries(d, n.fcb(), true)) {
            if (entry(d, e, 12) == 0 && entry(d, e, 10) < 128) {
                tell(count % 4 == 0 ? "\r\n" + (char) ('A' + d) + ": " : " : ");
                tell(shownName(d, e));
                count++;
            }
        }
        return count == 0 ? "No file" : "";
    }

    private String era(List<String> words) {
        Named n = only(words, true);
        if (n == null) {
            return null;
        }
        int answer = fileCall(19, n.fcb());
        return answer == BOOTED ? "booted" : answer == 255 ? "No file" : "";
    }

    private Named[] pair(List<String> words) {
        if (words.size() != 3 || !words.get(1).equals("=") || words.get(0).equals("=") || words.get(2).equals("=")) {
            return null;
        }
        Named[] p = {named(words.get(0)), named(words.get(2))};
        for (Named n : p) {
            if (n.bad || n.any() || n.star) {
                return null;
            }
        }
        return p;
    }

    private String ren(List<String> words) {
        Named[] p = pair(words);
        if (p == null) {
            return null;
        }
        int d = driveOf(p[0]);
        if (p[1].drive != 0 && driveOf(p[1]) != d) {
            return null;
        }
        logIn(d);
        if (!entries(d, p[0].fcb(), false).isEmpty()) {
            return "File exists";
        }
        if (entries(d, p[1].fcb(), false).isEmpty()) {
            return "No file";
        }
        Fcb f = p[1].fcb();
        f.set(0, d + 1);
        for (int k = 0; k < 11; k++) {
            f.set(17 + k, p[0].name[k]);
        }
        return fileCall(23, f) == BOOTED ? "booted" : "";
    }

    /** What reads a file as TYPE does. */
    private final class Source {
        final int d;
        final Fcb f;
        int extent;
        int next;
        int entry;
        int count;

        Source(int d, Fcb f) {
            this.d = d;
            this.f = f;
            logIn(d);
            seek(0);
        }

        void seek(int number) {
            extent = number;
            next = 0;
            entry = number > 31 ? -1 : extentEntry(d, f, number);
            count = entry < 0 ? 0 : Math.min(128, entry(d, entry, 15));
        }

        boolean there() {
            return entry >= 0;
        }

        int[] read() {
            while (entry >= 0) {
                if (next < count) {
                    int block = entry(d, entry, 16 + next / 8);
                    if (block == 0 || block > 242) {
                        entry = -1;
                        return null;
                    }
                    int[] sector = record(d, block * 8 + next % 8);
                    next++;
                    return sector.clone();
                }
                seek(extent + 1);
            }
            return null;
        }
    }

    private String type(List<String> words, boolean dump) {
        Named n = only(words, false);
        if (n == null) {
            return null;
        }
        Source s = new Source(driveOf(n), n.fcb());
        if (!s.there()) {
            return "No file";
        }
        if (!dump) {
            tell("\r\n");
        }
        int place = 0;
        for (int[] sector = s.read(); sector != null; sector = s.read()) {
            for (int value : sector) {
                if (!dump && value == 26) {
                    return "";
                }
                if (dump && place % 16 == 0) {
                    tell(String.format("\r\n%04X", place & 65535));
                }
                tell(dump ? String.format(" %02X", value) : "" + (char) value);
                place++;
                states++;
            }
        }
        return "";
    }

    /** Deletes and makes: "booted", "No space" or "". */
    private String remake(Fcb f) {
        int answer = fileCall(19, f);
        if (answer == BOOTED) {
            return "booted";
        }
        f.set(12, 0);
        return fileCall(22, f) == 255 ? "No space" : "";
    }

    /** A record behind what was written; false when there is no room. */
    private boolean append(Fcb f, int[] from, int at) {
        int d = f.get(0) == 0 ? hand : f.get(0) - 1;
        if (turnOver(d, f) != 0) {
            return false;
        }
        int[] sector = writable(d, f, false);
        if (sector == null) {
            return false;
        }
        System.arraycopy(from, at, sector, 0, 128);
        grow(f);
        f.set(32, f.get(32) + 1);
        return true;
    }

    private String fromMemory(Named n, int records) {
        Fcb f = n.fcb();
        String said = remake(f);
        if (!said.isEmpty()) {
            return said;
        }
        for (int i = 0; i < records && said.isEmpty(); i++) {
            said = append(f, memory, 256 + 128 * i) ? "" : "No space";
        }
        close(driveOf(n), f);
        return said;
    }

    private String save(List<String> words) {
        if (words.size() != 2 || !words.get(0).matches("0*[0-9]{1,3}") || Integer.parseInt(words.get(0)) > 255) {
            return null;
        }
        Named n = only(words.subList(1, 2), true);
        return n == null ? null : fromMemory(n, 2 * Integer.parseInt(words.get(0)));
    }

    private String stat(List<String> words) {
        if (words.isEmpty()) {
            logIn(hand);
            return (char) ('A' + hand) + ": " + (243 - use.get(hand).size()) + "k";
        }
        Named n = only(words, true);
        if (n == null) {
            return null;
        }
        int d = driveOf(n);
        logIn(d);
        String said = "No file";
        for (int e : entries(d, n.fcb(), true)) {
            if (entry(d, e, 12) == 0) {
                OwnFcb f = new OwnFcb();
                for (int k = 1; k < 12; k++) {
                    f.set(k, entry(d, e, k));
                }
                int blocks = 0;
                for (int x : entries(d, f, false)) {
                    for (int k = 16; k < 32; k++) {
                        blocks += entry(d, x, k) == 0 ? 0 : 1;
                    }
                }
                tell("\r\n" + shownName(d, e) + " " + records(d, f) + " " + blocks + "k");
                said = "";
            }
        }
        return said;
    }

    private String copy(List<String> words) {
        Named[] p = pair(words);
        if (p == null || driveOf(p[0]) == driveOf(p[1]) && Arrays.equals(p[0].name, p[1].name)) {
            return null;
        }
        Source s = new Source(driveOf(p[1]), p[1].fcb());
        if (!s.there()) {
            return "No file";
        }
        Fcb f = p[0].fcb();
        String said = remake(f);
        if (!said.isEmpty()) {
            return said;
        }
        for (int[] sector = s.read(); sector != null && said.isEmpty(); sector = s.read()) {
            said = append(f, sector, 0) ? "" : "No space";
            if (!said.isEmpty()) {
                break;
            }
        }
        close(driveOf(p[0]), f);
        return said;
    }

    private String hexload(List<String> words) {
        Named n = only(words, false);
        if (n == null || !n.type().equals("   ")) {
            return null;
        }
        "HEX".getChars(0, 3, n.name, 8);
        Source s = new Source(driveOf(n), n.fcb());
        if (!s.there()) {
            return "No file";
        }
        StringBuilder text = new StringBuilder();
        reading:
        for (int[] sector = s.read(); sector != null; sector = s.read()) {
            for (int value : sector) {
                if (value == 26) {
                    break reading;
                }
                text.append((char) value);
            }
        }
        int[] image = new int[58368 - 256];
        int top = hexTop(text.toString(), image);
        if (top < 0) {
            return "Bad hex";
        }
        System.arraycopy(image, 0, memory, 256, image.length);
        "COM".getChars(0, 3, n.name, 8);
        return fromMemory(n, top);
    }

    /** How many records the HEX text tells; -1 when it is wrong. */
    private static int hexTop(String text, int[] image) {
        int at = 0;
        int most = 0;
        while (true) {
            if (text.startsWith("\r\n", at)) {
                at += 2;
            }
            if (!text.startsWith(":", at)) {
                return -1;
            }
            at++;
            List<Integer> bytes = new ArrayList<>();
            int wanted = 5;
            while (bytes.size() < wanted) {
                if (at + 2 > text.length() || !text.substring(at, at + 2).matches("[0-9A-F]{2}")) {
                    return -1;
                }
                bytes.add(Integer.parseInt(text.substring(at, at + 2), 16));
                at += 2;
                wanted = 5 + bytes.get(0);
            }
            int sum = 0;
            for (int b : bytes) {
                sum += b;
            }
            int kind = bytes.get(3);
            if (sum % 256 != 0 || kind > 1 || kind == 1 && bytes.get(0) != 0) {
                return -1;
            }
            if (kind == 1) {
                return most;
            }
            for (int i = 0; i < bytes.get(0); i++) {
                int place = bytes.get(1) * 256 + bytes.get(2) + i;
                if (place < 256 || place > 58367) {
                    return -1;
                }
                image[place - 256] = bytes.get(4 + i);
                most = Math.max(most, (place - 256) / 128 + 1);
            }
        }
    }

    private String program(String first, String tail, List<String> words) {
        Named n = named(first);
        if (n.bad || n.any() || !n.type().equals("   ") || new String(n.name).isBlank()) {
            return null;
        }
        "COM".getChars(0, 3, n.name, 8);
        Source s = new Source(driveOf(n), n.fcb());
        if (!s.there()) {
            return null;
        }
        int count = 0;
        for (int[] sector = s.read(); sector != null; sector = s.read()) {
            if (count == 454) {
                return "Bad load";
            }
            System.arraycopy(sector, 0, memory, 256 + 128 * count, 128);
            count++;
        }
        List<String> plain = new ArrayList<>(words);
        plain.removeIf(w -> w.equals("="));
        for (int i = 0; i < 2; i++) {
            Named w = i < plain.size() ? named(plain.get(i)) : new Named();
            for (int k = 0; k < 16; k++) {
                memory[92 + 16 * i + k] = k == 0 ? w.drive : k < 12 ? w.name[k - 1] : 0;
            }
        }
        memory[128] = tail.length();
        for (int i = 0; i <= tail.length(); i++) {
            memory[129 + i] = i < tail.length() ? tail.charAt(i) : 0;
        }
        memory[58366] = 0;
        memory[58367] = 0;
        data = 128;
        hl = 0;
        a = 0;
        return "began";
    }
}
