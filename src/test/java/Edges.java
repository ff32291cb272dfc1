import java.io.IOException;
import java.nio.charset.StandardCharsets;
import java.nio.file.Files;
import java.nio.file.Path;
import java.util.TreeSet;

/** Tests of the document's sentences, one by one: each says whose words it holds to, and they must stand there. */
final class Edges {
    private static final Path DOCUMENT = Path.of("..", "shared", "DOC.md");
    private static final String PROMISE = "## Promise ";

    final Check check;
    private final String document;
    private final TreeSet<Integer> promises = new TreeSet<>();

    Edges(String test) {
        check = new Check(test);
        document = read();
    }

    /** Words told ahead of the promises. */
    void terms(String words, Runnable test) {
        int from = document.indexOf("## Terms");
        int to = document.indexOf(PROMISE);
        run("Terms", words, from < 0 || to < from ? "" : document.substring(from, to), test);
    }

    void promise(int number, String words, Runnable test) {
        int from = document.indexOf(PROMISE + number + ":");
        int to = from < 0 ? -1 : document.indexOf("\n## ", from + 1);
        promises.add(number);
        run("Promise " + number, words, from < 0 || to < from ? "" : document.substring(from, to), test);
    }

    private void run(String where, String words, String section, Runnable test) {
        check.about(where + ": '" + words + "'");
        if (!document.isEmpty()) {
            check.due("the document has these words", plain(section).contains(plain(words)), true);
        }
        int before = check.calls();
        test.run();
        check.due("something was looked at", check.calls() > before, true);
        check.about("");
    }

    /** No promise of these may be without a sentence that was tested. */
    void close(int firstPromise, int lastPromise) {
        for (int number = firstPromise; number <= lastPromise; number++) {
            check.due("a sentence of promise " + number + " was tested", promises.contains(number), true);
        }
        check.close();
    }

    private static String plain(String text) {
        return text.replace("`", "").replaceAll("\\s+", " ");
    }

    /** Empty if the document is not where it should be: the sentences are tested all the same. */
    private static String read() {
        try {
            return Files.readString(DOCUMENT, StandardCharsets.UTF_8);
        } catch (IOException e) {
            return "";
        }
    }
}
