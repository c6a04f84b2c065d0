import java.lang.management.ManagementFactory;
import java.lang.reflect.Array;
import java.lang.reflect.Field;
import java.lang.reflect.Modifier;
import java.util.IdentityHashMap;

/** All calls of a run live in one room: what a board holds is small beside it, and no call makes anything. */
public final class RoomTest {
    /** A seventh of the room's 7,300,000 fields and elements, and far below its 600,000 objects. */
    private static final int ELEMENTS_MOST = 1000000;
    private static final int OBJECTS_MOST = 1000;
    private static int elements;

    public static void main(String[] args) throws Exception {
        holdsLittle();
        makesNothing();
        Kit.finish();
    }

    private static void holdsLittle() throws Exception {
        MonitorBoard board = new MonitorBoard();
        IdentityHashMap<Object, Object> seen = new IdentityHashMap<>();
        elements = 0;
        walk(board, seen);
        Kit.due("elements " + elements, elements > 2 * 77 * 26 * 128 / 4 && elements < ELEMENTS_MOST, true);
        Kit.due("objects " + seen.size(), seen.size() < OBJECTS_MOST, true);
        int atFirst = elements;
        useAll(board);
        seen.clear();
        elements = 0;
        walk(board, seen);
        Kit.due("the same behind all calls", elements, atFirst);
    }

    private static void walk(Object o, IdentityHashMap<Object, Object> seen) throws Exception {
        if (o == null || o instanceof String || seen.put(o, o) != null) {
            return;
        }
        if (o.getClass().isArray()) {
            elements += Array.getLength(o);
            return;
        }
        for (Field f : o.getClass().getDeclaredFields()) {
            if (!Modifier.isStatic(f.getModifiers())) {
                elements++;
                if (!f.getType().isPrimitive()) {
                    f.setAccessible(true);
                    walk(f.get(o), seen);
                }
            }
        }
    }

    private static void makesNothing() {
        com.sun.management.ThreadMXBean counter =
            (com.sun.management.ThreadMXBean) ManagementFactory.getThreadMXBean();
        MonitorBoard board = new MonitorBoard();
        long least = Long.MAX_VALUE;
        for (int round = 0; round < 5; round++) {
            // A round may load what the Java machine itself needs; what the calls make, every round would make.
            long before = counter.getCurrentThreadAllocatedBytes();
            useAll(board);
            least = Math.min(least, counter.getCurrentThreadAllocatedBytes() - before);
        }
        Kit.due("bytes made by all calls", least, 0);
    }

    /** Every call of the face; the lines go through every command, the program through files and keys. */
    private static void useAll(MonitorBoard board) {
        board.boot();
        put(board, PROGRAM);
        board.assemble();
        board.back();
        board.load(256);
        for (int i = 0; i < LINES.length; i++) {
            put(board, LINES[i]);
            board.keys();
            board.run(200000);
        }
        board.console();
        board.out(0);
        board.hex();
        board.list(256);
        put(board, " ORG Q\n");
        board.assemble();
        board.memory(0);
        board.register(6);
        board.states();
        board.disk(1, 76, 26, 127, 0);
        board.jump(0);
        board.run(1000);
    }

    private static final String PROGRAM = " LXI D,92\n MVI C,22\n CALL 5\n LXI D,92\n MVI C,21\n CALL 5\n"
        + " LXI D,92\n MVI C,16\n CALL 5\n LXI D,92\n MVI C,17\n CALL 5\n MVI C,18\n CALL 5\n"
        + " LXI D,92\n MVI C,33\n CALL 5\n MVI C,27\n CALL 5\n LXI D,B\n MVI C,10\n CALL 5\n"
        + " LXI D,B\n MVI C,9\n CALL 5\n MVI E,9\n MVI C,14\n CALL 5\nB DB 3,0,'abc$'\n";
    private static final String[] LINES = {"SAVE 4 P.COM\r", "P NEW.FIL B:*.*\r", "xyz", "DIR\r", "STAT\rSTAT *.*\r",
        "DUMP P.COM\r", "TYPE NEW.FIL\r", "COPY B:Q.COM=P.COM\r", "REN B:R.COM = Q.COM\r", "ERA B:*.*\rERA *.*\r",
        "USER 3\rUSER 0\rB:\rA:\rHEXLOAD X\rNONE\r"};

    /** As Kit.tape, but without a row of its own. */
    private static void put(MonitorBoard board, String text) {
        board.end(0);
        for (int i = 0; i < text.length(); i += 20) {
            board.feed(four(text, i), four(text, i + 4), four(text, i + 8), four(text, i + 12), four(text, i + 16));
        }
        board.end(text.length());
    }

    private static int four(String text, int from) {
        int n = 0;
        for (int i = from; i < from + 4; i++) {
            n = n << 8 | (i < text.length() ? text.charAt(i) : 0);
        }
        return n;
    }
}
