import java.lang.reflect.Constructor;
import java.lang.reflect.Field;
import java.lang.reflect.Method;
import java.lang.reflect.Modifier;
import java.nio.charset.StandardCharsets;
import java.nio.file.Files;
import java.nio.file.Path;
import java.util.Arrays;
import java.util.TreeSet;
import java.util.regex.Matcher;
import java.util.regex.Pattern;

/** The face of the class and the plainest rules of LANGUAGE.md. */
public final class LanguageTest {
    private static final String[] FACE = {
        "public boolean feed(int,int,int,int,int)", "public boolean end(int)", "public int keys()",
        "public void boot()", "public int run(int)", "public long states()", "public int register(int)",
        "public int memory(int)", "public void load(int)", "public void jump(int)", "public int console()",
        "public int out(int)", "public int assemble()", "public int back()", "public int disk(int,int,int,int,int)",
        "public int list(int)", "public int hex()"};

    private static final String LIBRARY =
        " Arrays.fill Arrays.copyOf Arrays.copyOfRange System.arraycopy Math.max Math.min Integer.bitCount ";

    public static void main(String[] args) throws Exception {
        face();
        members();
        source(Files.readString(Path.of(args[0], "src/main/java/MonitorBoard.java"), StandardCharsets.ISO_8859_1));
        Kit.finish();
    }

    private static void face() {
        TreeSet<String> methods = new TreeSet<>();
        for (Method m : MonitorBoard.class.getDeclaredMethods()) {
            if (!Modifier.isPrivate(m.getModifiers())) {
                methods.add(m.toString().replace("MonitorBoard.", ""));
            }
        }
        Kit.due("methods", methods.toString(), new TreeSet<>(Arrays.asList(FACE)).toString());
        Constructor<?>[] constructors = MonitorBoard.class.getDeclaredConstructors();
        Kit.due("one constructor", constructors.length, 1);
        Kit.due("it is public", Modifier.isPublic(constructors[0].getModifiers()), true);
        Kit.due("final", Modifier.isFinal(MonitorBoard.class.getModifiers()), true);
    }

    private static void members() {
        for (Field f : MonitorBoard.class.getDeclaredFields()) {
            Kit.due("private " + f.getName(), Modifier.isPrivate(f.getModifiers()), true);
        }
        Class<?>[] inside = MonitorBoard.class.getDeclaredClasses();
        Kit.due("classes", inside.length <= 12, true);
        for (Class<?> c : inside) {
            Kit.due("static " + c.getName(), Modifier.isStatic(c.getModifiers()), true);
            int fields = 0;
            for (Field f : c.getDeclaredFields()) {
                boolean constant = Modifier.isStatic(f.getModifiers());
                fields += constant ? 0 : 1;
                Kit.due("final " + f.getName(), !constant || Modifier.isFinal(f.getModifiers()), true);
            }
            Kit.due("fields of " + c.getName() + ": " + fields, fields <= 22, true);
            for (Method m : c.getDeclaredMethods()) {
                Kit.due("parameters of " + m.getName(), m.getParameterCount() <= 7, true);
                for (String face : FACE) {
                    Kit.due("name " + m.getName(), face.contains(" " + m.getName() + "("), false);
                }
            }
        }
    }

    private static void source(String text) {
        String bare = text.replaceAll("(?s)/\\*.*?\\*/", "").replaceAll("//[^\n]*", "")
            .replaceAll("\"[^\"\n]*\"", "\"\"");
        for (String word : new String[] {"throw", "throws", "try", "catch", "synchronized", "assert", "yield",
            "System.currentTimeMillis", "System.nanoTime", "Random", "Thread", "Object", "hashCode"}) {
            Kit.due("no " + word, Pattern.compile("\\b" + Pattern.quote(word) + "\\b").matcher(bare).find(), false);
        }
        for (String sign : new String[] {"->", "::", "Exact(", "\" +", "+ \"", "while (true)", "for (;;)", "package "}) {
            Kit.due("no " + sign, bare.contains(sign), false);
        }
        Matcher used = Pattern.compile("\\b(Math|Integer|Long|Arrays|System|String|Character|List)\\.(\\w+)").matcher(bare);
        while (used.find()) {
            Kit.due("rule 4 has " + used.group(), LIBRARY.contains(" " + used.group() + " "), true);
        }
        Kit.due("one import", bare.split("\nimport |^import ").length - 1, 1);
        int length = 0;
        for (String line : text.split("\n")) {
            boolean begins = line.matches("    (    )?[A-Za-z].*\\) \\{")
                && !line.matches(" *(if|for|while|switch) .*");
            length = begins ? 0 : length + 1;
            if (line.equals("        }") || line.equals("    }")) {
                Kit.due("a short method: " + length, length <= 64, true);
            }
        }
    }
}
