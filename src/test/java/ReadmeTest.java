import java.nio.file.Files;
import java.nio.file.Path;
import java.util.List;
import java.util.regex.Matcher;
import java.util.regex.Pattern;
import java.util.stream.Stream;

/** What README.md says: its examples answer as they say there, and its tables have every test and every call. */
public final class ReadmeTest {
    public static void main(String[] args) throws Exception {
        MonitorBoard board = new MonitorBoard();
        typesDir(board);
        savesProgram(board);
        List<String> page = Files.readAllLines(Path.of(args[0], "README.md"));
        sameLines(page, Files.readString(Path.of(args[0], "src/test/java/ReadmeTest.java")));
        allTests(String.join("\n", page), Path.of(args[0], "src/test/java"));
        allCalls(String.join("\n", page));
        Kit.finish();
    }

    private static void typesDir(MonitorBoard board) {
        Kit.due("feed", board.feed(0x4449520D, 0, 0, 0, 0), true);
        Kit.due("end", board.end(4), true);
        Kit.due("keys", board.keys(), 4);
        Kit.due("run", board.run(1000), 1);
        int count = board.console();
        Kit.due("console", count, 26);
        int first = board.out(0);
        Kit.due("out", first, 13);
        Kit.due("told", Kit.out(board, count), "\r\n62K\r\nA>DIR\r\r\nNo file\r\nA>");
    }

    private static void tape(MonitorBoard board, String text) {
        board.end(0);
        for (int i = 0; i < text.length(); i += 20) {
            int[] n = new int[5];
            for (int k = 0; k < 20; k++) {
                n[k / 4] = n[k / 4] << 8 | (i + k < text.length() ? text.charAt(i + k) : 0);
            }
            board.feed(n[0], n[1], n[2], n[3], n[4]);
        }
        board.end(text.length());
    }

    private static void savesProgram(MonitorBoard board) {
        tape(board, " MVI C,2\n MVI E,'!'\n CALL 5\n RET\n");
        Kit.due("assemble", board.assemble(), 8);
        Kit.due("back", board.back(), 8);
        board.load(256);
        tape(board, "SAVE 1 HI.COM\rHI\r");
        Kit.due("keys", board.keys(), 17);
        Kit.due("run", board.run(10000), 1);
        Kit.due("told", Kit.told(board), "SAVE 1 HI.COM\r\r\nA>HI\r!\r\nA>");
        Kit.due("list", board.list(256), 9);
        Kit.due("listed", Kit.out(board, 9), "MVI C,02H");
        board.jump(300);
        Kit.put(board, 300, 0x76);
        Kit.due("stopped", board.run(1000), 2);
    }

    /** Each line of the examples stands in this file too, so that what runs here is what is told there. */
    private static void sameLines(List<String> page, String source) {
        boolean inside = false;
        for (String line : page) {
            if (line.startsWith("```")) {
                inside = line.equals("```java");
            } else if (inside) {
                String code = line.replaceAll(" *//.*", "").replaceAll(";$", "").trim();
                Kit.due("in the test: " + code, source.contains(code), true);
                sameAnswer(line, source);
            }
        }
    }

    /** An answer that the page tells behind a call is the one that is due here. */
    private static void sameAnswer(String line, String source) {
        Matcher told = Pattern.compile("board\\.(\\w+)\\(.*// (true|\\d+)\\b").matcher(line);
        if (told.find()) {
            String due = "due\\(\"" + told.group(1) + "\", .*, " + told.group(2) + "\\);";
            Kit.due("due in the test: " + line, Pattern.compile(due).matcher(source).find(), true);
        }
    }

    private static void allTests(String page, Path folder) throws Exception {
        try (Stream<Path> files = Files.list(folder)) {
            for (Path file : files.toList()) {
                String name = file.getFileName().toString().replace(".java", "");
                Kit.due("README names " + name, page.contains(name), true);
            }
        }
    }

    private static void allCalls(String page) {
        for (java.lang.reflect.Method m : MonitorBoard.class.getMethods()) {
            if (m.getDeclaringClass() == MonitorBoard.class) {
                Kit.due("README has " + m.getName(), page.contains("| `" + m.getName() + "("), true);
            }
        }
    }
}
