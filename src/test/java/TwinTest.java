import java.util.ArrayList;
import java.util.List;
import java.util.Random;

/** Promises 6 to 9: random codes on the board and on a second processor, written anew from Part I, have the same end. */
public final class TwinTest {
    public static void main(String[] args) {
        for (int seed = 0; seed < 1500; seed++) {
            story(new Random(seed), seed);
        }
        Kit.finish();
    }

    private static void story(Random random, int seed) {
        MonitorBoard b = new MonitorBoard();
        Twin twin = new Twin(b);
        int at = seed % 3 == 0 ? random.nextInt(65536) : 0x1000 + random.nextInt(0x8000);
        byte[] bytes = new byte[400];
        random.nextBytes(bytes);
        if (seed % 2 == 0) {
            for (int i = 0; i < bytes.length; i++) {
                bytes[i] = straight(bytes[i] & 255, random);
            }
        }
        Kit.tape(b, bytes);
        b.load(at);
        for (int i = 0; i < bytes.length; i++) {
            twin.memory[at + i & 65535] = bytes[i] & 255;
        }
        b.jump(at);
        twin.pc = at;
        int n = 1 + random.nextInt(4000);
        if (!twin.run(n)) {
            return;
        }
        Kit.due("story " + seed + ": run", b.run(n), twin.halted ? 2 : 0);
        Kit.due("story " + seed + ": states", b.states(), twin.states);
        int[] due = {twin.b, twin.c, twin.d, twin.e, twin.h, twin.l, twin.flags(), twin.a, twin.sp, twin.pc};
        for (int i = 0; i < due.length; i++) {
            Kit.due("story " + seed + ": register " + i, b.register(i), due[i]);
        }
        for (int place : twin.written) {
            Kit.due("story " + seed + ": memory " + place, b.memory(place), twin.memory[place]);
        }
    }

    /** In half of the stories few codes go elsewhere, and none stops. */
    private static byte straight(int code, Random random) {
        boolean goes = code == 0x76 || code >= 0xC0 && ((code & 7) == 0 || (code & 7) == 2 || (code & 7) == 4 || (code & 7) == 7)
            || code == 0xC3 || code == 0xC9 || code == 0xE9;
        return (byte) (goes && random.nextInt(10) > 0 ? random.nextInt(0x70) : code);
    }

    /** A processor whose flags are bits of their own; it has no monitor, and no keys wait. */
    private static final class Twin {
        final int[] memory = new int[65536];
        final List<Integer> written = new ArrayList<>();
        int a;
        int b;
        int c;
        int d;
        int e;
        int h;
        int l;
        int sp;
        int pc;
        int s;
        int z;
        int ac;
        int p;
        int cy;
        long states;
        boolean halted;

        Twin(MonitorBoard board) {
            for (int i = 0; i < 8; i++) {
                memory[i] = board.memory(i);
            }
        }

        int flags() {
            return s * 128 + z * 64 + ac * 16 + p * 4 + 2 + cy;
        }

        /** False when it comes to where the monitor stands. */
        boolean run(int n) {
            while (states < n && !halted) {
                if (pc == 60934 || pc >= 60416 && pc <= 60464 && (pc - 60416) % 3 == 0) {
                    return false;
                }
                one(fetch());
            }
            return true;
        }

        int fetch() {
            int value = memory[pc];
            pc = (pc + 1) % 65536;
            return value;
        }

        int fetchWord() {
            int low = fetch();
            return fetch() * 256 + low;
        }

        void store(int at, int value) {
            memory[at % 65536] = value;
            if (written.size() < 60) {
                written.add(at % 65536);
            }
        }

        int word(int at) {
            return memory[at] + 256 * memory[(at + 1) % 65536];
        }

        void storeWord(int at, int value) {
            store(at, value % 256);
            store(at + 1, value / 256);
        }

        int get(int n) {
            int[] all = {b, c, d, e, h, l, memory[h * 256 + l], a};
            return all[n];
        }

        void set(int n, int value) {
            switch (n) {
                case 0: b = value; break;
                case 1: c = value; break;
                case 2: d = value; break;
                case 3: e = value; break;
                case 4: h = value; break;
                case 5: l = value; break;
                case 6: store(h * 256 + l, value); break;
                default: a = value; break;
            }
        }

        int getPair(int n) {
            return n == 3 ? sp : get(2 * n) * 256 + get(2 * n + 1);
        }

        void setPair(int n, int value) {
            int w = Math.floorMod(value, 65536);
            if (n == 3) {
                sp = w;
            } else {
                set(2 * n, w / 256);
                set(2 * n + 1, w % 256);
            }
        }

        void push(int value) {
            sp = (sp + 65534) % 65536;
            storeWord(sp, value);
        }

        int pop() {
            int value = word(sp);
            sp = (sp + 2) % 65536;
            return value;
        }

        void shape(int value) {
            s = value / 128;
            z = value == 0 ? 1 : 0;
            p = 1;
            for (int rest = value; rest > 0; rest /= 2) {
                p ^= rest % 2;
            }
        }

        /** Bit by bit, as a full adder has it. */
        int add(int x, int y, int carry) {
            int sum = 0;
            int c4 = carry;
            for (int bit = 0; bit < 8; bit++) {
                int ones = (x >> bit & 1) + (y >> bit & 1) + c4;
                sum += ones % 2 << bit;
                c4 = ones / 2;
                if (bit == 3) {
                    ac = c4;
                }
            }
            cy = c4;
            shape(sum);
            return sum;
        }

        int subtract(int x, int y, int borrow) {
            int value = add(x, 255 - y, 1 - borrow);
            cy = 1 - cy;
            return value;
        }

        void reckon(int o, int y) {
            int x = a;
            switch (o) {
                case 0: a = add(x, y, 0); break;
                case 1: a = add(x, y, cy); break;
                case 2: a = subtract(x, y, 0); break;
                case 3: a = subtract(x, y, cy); break;
                case 4: a = x & y; break;
                case 5: a = x ^ y; break;
                case 6: a = x | y; break;
                default: subtract(x, y, 0); break;
            }
            if (o >= 4 && o <= 6) {
                shape(a);
                cy = 0;
                ac = o == 4 ? (x >> 3 & 1) + (y >> 3 & 1) > 0 ? 1 : 0 : 0;
            }
        }

        boolean condition(int n) {
            int[] flag = {z, cy, p, s};
            return flag[n / 2] == n % 2;
        }

        void one(int code) {
            if (code == 0x76) {
                halted = true;
                states += 7;
            } else if (code / 64 == 1) {
                set(code / 8 % 8, get(code % 8));
                states += code / 8 % 8 == 6 || code % 8 == 6 ? 7 : 5;
            } else if (code / 64 == 2) {
                reckon(code / 8 % 8, get(code % 8));
                states += code % 8 == 6 ? 7 : 4;
            } else if (code < 64) {
                low(code, code / 8, code / 16);
            } else {
                high(code, code / 8 % 8, code / 16 % 4);
            }
        }

        void low(int code, int n, int pair) {
            int kept = cy;
            switch (code % 16) {
                case 1: setPair(pair, fetchWord()); states += 10; break;
                case 3: setPair(pair, getPair(pair) + 1); states += 5; break;
                case 11: setPair(pair, getPair(pair) - 1); states += 5; break;
                case 9: {
                    int sum = getPair(2) + getPair(pair);
                    setPair(2, sum);
                    cy = sum / 65536;
                    states += 10;
                    break;
                }
                case 4: case 12: {
                    int value = (get(n) + 1) % 256;
                    set(n, value);
                    shape(value);
                    ac = value % 16 == 0 ? 1 : 0;
                    cy = kept;
                    states += n == 6 ? 10 : 5;
                    break;
                }
                case 5: case 13: {
                    int value = (get(n) + 255) % 256;
                    set(n, value);
                    shape(value);
                    ac = value % 16 == 15 ? 0 : 1;
                    cy = kept;
                    states += n == 6 ? 10 : 5;
                    break;
                }
                case 6: case 14: set(n, fetch()); states += n == 6 ? 10 : 7; break;
                case 2: case 10: direct(code); break;
                case 7: case 15: turn(code); states += 4; break;
                default: states += 4; break;
            }
        }

        void direct(int code) {
            switch (code) {
                case 0x02: store(getPair(0), a); states += 7; break;
                case 0x12: store(getPair(1), a); states += 7; break;
                case 0x0A: a = memory[getPair(0)]; states += 7; break;
                case 0x1A: a = memory[getPair(1)]; states += 7; break;
                case 0x22: storeWord(fetchWord(), getPair(2)); states += 16; break;
                case 0x2A: setPair(2, word(fetchWord())); states += 16; break;
                case 0x32: store(fetchWord(), a); states += 13; break;
                default: a = memory[fetchWord()]; states += 13; break;
            }
        }

        void turn(int code) {
            int before = a;
            switch (code) {
                case 0x07: cy = a / 128; a = a * 2 % 256 + cy; break;
                case 0x0F: cy = a % 2; a = a / 2 + 128 * cy; break;
                case 0x17: a = a * 2 % 256 + cy; cy = before / 128; break;
                case 0x1F: a = a / 2 + 128 * cy; cy = before % 2; break;
                case 0x27: decimal(); break;
                case 0x2F: a = 255 - a; break;
                case 0x37: cy = 1; break;
                default: cy = 1 - cy; break;
            }
        }

        void decimal() {
            int tens = a > 153 || cy == 1 ? 1 : 0;
            int value = add(a, a % 16 > 9 || ac == 1 ? 6 : 0, 0);
            int half = ac;
            a = add(value, 96 * tens, 0);
            ac = half;
            cy = tens;
        }

        void high(int code, int n, int pair) {
            switch (code) {
                case 0xC3: case 0xCB: pc = fetchWord(); states += 10; return;
                case 0xC9: case 0xD9: pc = pop(); states += 10; return;
                case 0xCD: case 0xDD: case 0xED: case 0xFD: enter(fetchWord()); states += 17; return;
                case 0xE9: pc = getPair(2); states += 5; return;
                case 0xF9: sp = getPair(2); states += 5; return;
                case 0xEB: {
                    int held = getPair(1);
                    setPair(1, getPair(2));
                    setPair(2, held);
                    states += 4;
                    return;
                }
                case 0xE3: {
                    int held = word(sp);
                    storeWord(sp, getPair(2));
                    setPair(2, held);
                    states += 18;
                    return;
                }
                case 0xD3: fetch(); states += 10; return;
                case 0xDB: a = fetch() < 2 ? 0 : 255; states += 10; return;
                case 0xF3: case 0xFB: states += 4; return;
                default: break;
            }
            boolean holds = condition(n);
            switch (code % 8) {
                case 0:
                    pc = holds ? pop() : pc;
                    states += holds ? 11 : 5;
                    break;
                case 1:
                    popPair(pair, pop());
                    states += 10;
                    break;
                case 2: {
                    int to = fetchWord();
                    pc = holds ? to : pc;
                    states += 10;
                    break;
                }
                case 4: {
                    int to = fetchWord();
                    if (holds) {
                        enter(to);
                    }
                    states += holds ? 17 : 11;
                    break;
                }
                case 5:
                    push(pair == 3 ? a * 256 + flags() : getPair(pair));
                    states += 11;
                    break;
                case 6:
                    reckon(n, fetch());
                    states += 7;
                    break;
                default:
                    enter(8 * n);
                    states += 11;
                    break;
            }
        }

        void enter(int to) {
            push(pc);
            pc = to;
        }

        void popPair(int pair, int value) {
            if (pair < 3) {
                setPair(pair, value);
                return;
            }
            a = value / 256;
            s = value / 128 % 2;
            z = value / 64 % 2;
            ac = value / 16 % 2;
            p = value / 4 % 2;
            cy = value % 2;
        }
    }
}
