import java.util.Random;

/** Calls with any arguments in any state: none throws, all end, and the same calls answer the same. */
public final class FuzzTest {
    private static final String[] KEYS = {"DIR\r", "DIR *.*\r", "SAVE 3 A.COM\r", "SAVE 90 B.X\r", "ERA A.*\r", "A\r",
        "TYPE B.X\r", "DUMP A.COM\r", "STAT\r", "STAT *.*\r", "COPY C.X=B.X\r", "COPY B:A.COM=A:A.COM\r", "B:\r",
        "A:\r", "REN Q=B.X\r", "USER 3\r", "USER 0\r", "HEXLOAD H\r", "SAVE 2 H.HEX\r", "A B:C D=E\r", "\u0003", "\b",
        "ERA *.*\r", "XYZ", "=", ":", "*", "?", ".", " ", "\r", "\n", "\u00ff", "\u0000"};
    private static final String[] WORDS = {"MOV", "A", "B", ",", " ", "\n", "'", "''", "(", ")", "+", "-", "*", "/", "$",
        "ORG ", "EQU ", "DB ", "DW ", "DS ", "END", "0FFH", "101B", "9", "65535", "X", "Y:", ";", "\r", "\t", "LXI H,",
        "JMP ", "\n ", "\n ", "RST ", "MVI M,", "STAX ", "PUSH PSW", "SP", "58367"};

    public static void main(String[] args) {
        for (int seed = 0; seed < 400; seed++) {
            long first = story(seed);
            if (seed % 10 == 0) {
                Kit.due("the same again " + seed, story(seed), first);
            }
        }
        Kit.due("all stories ended", true, true);
        Kit.finish();
    }

    private static long story(int seed) {
        Random random = new Random(seed);
        MonitorBoard b = new MonitorBoard();
        long sum = 0;
        for (int i = 0; i < 300; i++) {
            sum = sum * 31 + step(b, random, seed % 4);
            looks(b);
        }
        return sum;
    }

    private static void looks(MonitorBoard b) {
        for (int i = 0; i < 13; i++) {
            int value = b.register(i);
            int most = i < 8 ? 255 : i == 10 ? 1 : i == 11 ? 31 : 65535;
            if (value < 0 || value > most) {
                Kit.due("register " + i, value, 0);
            }
        }
        if ((b.register(6) & 0x2A) != 2) {
            Kit.due("flags", b.register(6), 2);
        }
    }

    private static int any(Random random) {
        return random.nextInt(5) == 0 ? random.nextInt() : random.nextInt(300) - 20;
    }

    private static long step(MonitorBoard b, Random random, int kind) {
        switch (random.nextInt(16)) {
            case 0:
                return b.feed(random.nextInt(), random.nextInt(), any(random), any(random), any(random)) ? 1 : 0;
            case 1:
                return b.end(any(random)) ? 1 : 0;
            case 2:
                Kit.tape(b, KEYS[random.nextInt(KEYS.length)] + KEYS[random.nextInt(KEYS.length)]);
                return b.keys();
            case 3:
                if (random.nextInt(20) == 0) {
                    b.boot();
                }
                return b.states();
            case 4:
                return b.run(random.nextInt(30000));
            case 5:
                return b.run(any(random));
            case 6:
                b.load(any(random) * 16);
                return b.memory(any(random));
            case 7:
                if (kind == 0) {
                    b.jump(any(random));
                }
                return b.console();
            case 8:
                return b.out(any(random));
            case 9:
                return source(b, random);
            case 10:
                return b.back();
            case 11:
                return b.disk(any(random) & 1, 2, 1 + random.nextInt(26), random.nextInt(128), random.nextInt());
            case 12:
                return b.list(random.nextInt());
            case 13:
                return b.hex();
            case 14:
                return monitorCall(b, random);
            default:
                return b.disk(any(random), any(random), any(random), any(random), any(random));
        }
    }

    private static long source(MonitorBoard b, Random random) {
        StringBuilder text = new StringBuilder();
        int count = random.nextInt(60);
        for (int i = 0; i < count; i++) {
            text.append(WORDS[random.nextInt(WORDS.length)]);
        }
        return Kit.assemble(b, text.toString());
    }

    private static long monitorCall(MonitorBoard b, Random random) {
        int[] fcb = new int[36];
        for (int k = 0; k < 36; k++) {
            fcb[k] = random.nextInt(3) == 0 ? random.nextInt(256) : 0;
        }
        fcb[0] = random.nextInt(4) == 0 ? random.nextInt(256) : random.nextInt(3);
        for (int k = 1; k < 12; k++) {
            fcb[k] = random.nextInt(6) == 0 ? '?' : k == 1 ? 'A' : ' ';
        }
        fcb[32] = random.nextInt(4) == 0 ? 128 : random.nextInt(140);
        int at = random.nextInt(3) == 0 ? random.nextInt(65536) : 0x3000;
        Kit.put(b, at, fcb);
        return Kit.call(b, random.nextInt(5) == 0 ? random.nextInt(256) : random.nextInt(42), at);
    }
}
