import java.io.IOException;
import java.lang.reflect.Method;
import java.lang.reflect.Modifier;
import java.nio.charset.StandardCharsets;
import java.nio.file.DirectoryStream;
import java.nio.file.Files;
import java.nio.file.Path;
import java.util.Arrays;
import java.util.Set;
import java.util.TreeSet;
import java.util.regex.Matcher;
import java.util.regex.Pattern;

/** The document from its first line to its last: its face is the class's face, and no words of its are without a test. */
public final class DocumentTest {
    private static final Check CHECK = new Check("DocumentTest");
    private static final Path DOCUMENT = Path.of("..", "shared", "DOC.md");
    private static final Path TESTS = Path.of("src", "test", "java");
    private static final int PROMISES = 47;
    /** What tells where something stands, or joins what has tests of its own. */
    private static final Set<String> JOINING = Set.of(
        "Terms", "text", "LINE", "( 'pitch' 'length' 'dents' 'number' )", "==== 2. RING of a JUROR's lid on a FLOOR",
        "==== 3", "DRAWN by a seed x", "each DAY");

    public static void main(String[] args) throws IOException {
        if (!Files.isReadable(DOCUMENT)) {
            // As in Edges: a checkout without the document is no fault of the program.
            System.out.println("DocumentTest: there is no " + DOCUMENT + " to look at");
            return;
        }
        String document = Files.readString(DOCUMENT, StandardCharsets.UTF_8);
        String quotes = quotesOfTests();
        dueFace(section(document, "The public face"));
        dueQuoted("Terms", section(document, "Terms"), quotes, "EDGES\\.terms\\(");
        for (int number = 1; number <= PROMISES; number++) {
            String promise = section(document, "Promise " + number + ":");
            duePromised(number, promise);
            String words = promise.substring(promise.indexOf("`:") + 1);
            dueQuoted("Promise " + number, words, quotes, "EDGES\\.promise\\(" + number + ", ");
        }
        CHECK.due("no promise more", document.contains("## Promise " + (PROMISES + 1)), false);
        CHECK.close();
    }

    private static String section(String document, String title) {
        int from = document.indexOf("\n## " + title);
        int to = document.indexOf("\n## ", from + 1);
        CHECK.due("the document tells " + title, from >= 0 && to > from, true);
        return from < 0 || to < from ? "" : document.substring(from + 4, to);
    }

    /** All edges' tests, with texts that go on behind a line's end joined. */
    private static String quotesOfTests() throws IOException {
        StringBuilder all = new StringBuilder();
        try (DirectoryStream<Path> files = Files.newDirectoryStream(TESTS, "EdgesOf*Test.java")) {
            for (Path file : files) {
                all.append(Files.readString(file, StandardCharsets.UTF_8));
            }
        }
        return all.toString().replaceAll("\"\\s*\\+\\s*\"", "");
    }

    private static String plain(String text) {
        return text.replace("`", "").replaceAll("\\s+", " ");
    }

    /** Takes from a section what tests quote, and looks at what is left. */
    private static void dueQuoted(String where, String section, String quotes, String call) {
        String words = plain(section);
        boolean[] quoted = new boolean[words.length()];
        Matcher found = Pattern.compile(call + "\"([^\"]*)\"").matcher(quotes);
        while (found.find()) {
            String quote = plain(found.group(1));
            for (int at = words.indexOf(quote); at >= 0; at = words.indexOf(quote, at + 1)) {
                Arrays.fill(quoted, at, at + quote.length(), true);
            }
        }
        StringBuilder left = new StringBuilder();
        for (int i = 0; i < quoted.length; i++) {
            left.append(quoted[i] ? '\n' : words.charAt(i));
        }
        for (String piece : left.toString().split("\n+")) {
            String bare = piece.replace("|", "").replaceAll("[ .;:]+$|^[ .;:]+", "").replaceAll(" +", " ");
            boolean joins = bare.length() < 3 || JOINING.contains(bare) || bare.equals(".) text") || bare.equals(") text");
            CHECK.due(where + ": a test has the words '" + bare + "'", joins, true);
        }
    }

    /** The promise's own title and head are those of a method of the face. */
    private static void duePromised(int number, String promise) {
        Matcher head = Pattern.compile("Promise \\d+: ([A-Za-z ]+)\n\n`([^`]*)`:").matcher(promise);
        boolean told = head.find();
        CHECK.due("promise " + number + " has a head", told, true);
        if (told && number > 1) {
            CHECK.due("promise " + number + " is of the face", heads().contains(withoutNames(head.group(2))), true);
            CHECK.due("promise " + number + " is named so", head.group(2).contains(" " + head.group(1) + "("), true);
        }
    }

    private static Set<String> heads() {
        Set<String> heads = new TreeSet<>();
        for (Method m : LidCourt.class.getDeclaredMethods()) {
            if (Modifier.isPublic(m.getModifiers())) {
                StringBuilder head = new StringBuilder(m.getReturnType().getName() + " " + m.getName() + "(");
                for (Class<?> type : m.getParameterTypes()) {
                    head.append(head.charAt(head.length() - 1) == '(' ? "" : ", ").append(type.getName());
                }
                head.append(")");
                for (Class<?> type : m.getExceptionTypes()) {
                    head.append(" throws ").append(type.getSimpleName());
                }
                heads.add(head.toString());
            }
        }
        return heads;
    }

    private static String withoutNames(String head) {
        return head.replaceAll("\\b(int|long|boolean) \\w+(?=[,)])", "$1");
    }

    private static void dueFace(String section) {
        Set<String> told = new TreeSet<>();
        Matcher line = Pattern.compile("public ((?:int|long|boolean) \\w+\\([^;]*);").matcher(section);
        while (line.find()) {
            told.add(withoutNames(line.group(1)));
        }
        CHECK.dueText("the face", heads().toString(), told.toString());
        CHECK.due("methods", told.size(), PROMISES - 1);
        CHECK.due("NONE", LidCourt.NONE, -1);
    }
}
