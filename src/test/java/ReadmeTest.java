import java.io.IOException;
import java.lang.reflect.InvocationTargetException;
import java.lang.reflect.Method;
import java.lang.reflect.Modifier;
import java.nio.charset.StandardCharsets;
import java.nio.file.DirectoryStream;
import java.nio.file.Files;
import java.nio.file.Path;
import java.util.ArrayList;
import java.util.List;
import java.util.regex.Matcher;
import java.util.regex.Pattern;

/** What README.md shows is so: its calls are made one behind the other, and each must answer what stands behind it. */
public final class ReadmeTest {
    private static final Check CHECK = new Check("ReadmeTest");
    private static final Path README = Path.of("README.md");
    private static final Path TESTS = Path.of("src", "test", "java");
    private static final Pattern CALL = Pattern.compile("x\\.(\\w+)\\((.*)\\);\\s+// (-?\\d+|true|false)(: .*)?");
    private static final Pattern LAID = Pattern.compile("lay\\(x, \"(.*)\"\\);");

    private static LidCourt x;

    public static void main(String[] args) throws IOException, ReflectiveOperationException {
        String page = Files.readString(README, StandardCharsets.UTF_8);
        int calls = 0;
        Matcher block = Pattern.compile("(?s)```java\n(.*?)```").matcher(page);
        while (block.find()) {
            if (block.group(1).startsWith("static ")) {
                dueWrittenHere(block.group(1));
            } else {
                calls += goThrough(block.group(1));
            }
        }
        CHECK.due("calls are shown", calls > 20, true);
        dueNamed(page);
        CHECK.close();
    }

    private static int goThrough(String block) throws ReflectiveOperationException {
        int calls = 0;
        for (String line : block.split("\n")) {
            Matcher call = CALL.matcher(line);
            Matcher laid = LAID.matcher(line);
            if (line.equals("LidCourt x = new LidCourt();")) {
                x = new LidCourt();
            } else if (laid.matches()) {
                CHECK.due(line, lay(x, laid.group(1)), true);
            } else if (call.matches()) {
                CHECK.dueText(line, answerOf(call.group(1), call.group(2)), call.group(3));
                calls++;
            } else {
                CHECK.dueText("a line that is no call", line, "");
            }
        }
        return calls;
    }

    private static String answerOf(String name, String told) throws ReflectiveOperationException {
        List<Object> given = new ArrayList<>();
        for (String one : told.isEmpty() ? new String[0] : told.split(", ")) {
            given.add(Integer.decode(one));
        }
        for (Method m : LidCourt.class.getMethods()) {
            if (m.getName().equals(name) && m.getParameterCount() == given.size()) {
                try {
                    return m.invoke(x, given.toArray()).toString();
                } catch (InvocationTargetException e) {
                    return e.getCause().toString();
                }
            }
        }
        return "no such call";
    }

    /** The page's helper is the one below, line by line. */
    private static void dueWrittenHere(String block) throws IOException {
        String here = Files.readString(TESTS.resolve("ReadmeTest.java"), StandardCharsets.UTF_8);
        String indented = block.replaceAll("(?m)^(?=.)", "    ");
        CHECK.due("lay() is as shown", here.contains(indented), true);
    }

    private static void dueNamed(String page) throws IOException {
        for (Method m : LidCourt.class.getDeclaredMethods()) {
            if (Modifier.isPublic(m.getModifiers())) {
                CHECK.due("it names " + m.getName(), page.contains("`" + m.getName() + "`"), true);
            }
        }
        try (DirectoryStream<Path> files = Files.newDirectoryStream(TESTS, "*Test.java")) {
            for (Path file : files) {
                String test = file.getFileName().toString().replace(".java", "");
                CHECK.due("it names " + test, page.contains("| `" + test + "` |"), true);
            }
        }
    }

    static boolean lay(LidCourt x, String text) {
        int before = x.count(5);
        for (int i = 0; i < text.length(); i += 20) {
            int[] five = new int[5];
            for (int k = 0; k < 20; k++) {
                five[k / 4] = five[k / 4] << 8 | (i + k < text.length() ? text.charAt(i + k) : 0);
            }
            if (x.feed(five[0], five[1], five[2], five[3], five[4]) == LidCourt.NONE) {
                x.end(before);
                return false;
            }
        }
        return x.end(before + text.length());
    }
}
