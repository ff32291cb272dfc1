import java.io.IOException;
import java.lang.reflect.Constructor;
import java.lang.reflect.Field;
import java.lang.reflect.Method;
import java.lang.reflect.Modifier;
import java.nio.file.Files;
import java.nio.file.Path;
import java.util.ArrayList;
import java.util.Arrays;
import java.util.HashSet;
import java.util.List;
import java.util.Set;
import java.util.TreeSet;
import java.util.regex.Matcher;
import java.util.regex.Pattern;

/** The face of the class, and the rules of LANGUAGE.md that can be seen from outside or in the text. */
public final class FaceTest {
    private static final Check CHECK = new Check("FaceTest");
    private static final String[] FACE = {
        "feed IIIII I", "end I Z", "court  I", "fault  I", "juror II I", "trial II I", "ring II I", "lasts II I", "now I I",
        "sit I I", "rise I I", "hold I I", "drop I I", "beat I I", "tryCase I I", "appeal I I", "days I I", "undo  I",
        "verdict I I", "spread I I", "longest I I", "agree I I", "agreed  I", "jury II I", "jurors  I", "likely II J",
        "panel III J", "panelled  I", "heard  I", "surely  I", "ask  I", "strikes II I", "struck  I", "beats I I",
        "beating  I", "roll I I", "byteAt I I", "drawn II I", "odds III I", "book I I", "told I I", "sentence  I",
        "said I I", "image I Z", "restore I Z", "count I I"
    };

    public static void main(String[] args) throws IOException {
        face();
        names();
        String source = Files.readString(Path.of("src/main/java/LidCourt.java"));
        words(withoutComments(source));
        methodsAreShort(source);
        CHECK.close();
    }

    private static String letter(Class<?> type) {
        return type == int.class ? "I" : type == long.class ? "J" : type == boolean.class ? "Z" : type.getName();
    }

    private static void face() {
        Class<LidCourt> type = LidCourt.class;
        CHECK.due("public", Modifier.isPublic(type.getModifiers()), true);
        CHECK.due("final", Modifier.isFinal(type.getModifiers()), true);
        Set<String> methods = new TreeSet<>();
        for (Method m : type.getDeclaredMethods()) {
            if (!Modifier.isPrivate(m.getModifiers()) && !m.isSynthetic()) {
                StringBuilder parameters = new StringBuilder();
                for (Class<?> p : m.getParameterTypes()) {
                    parameters.append(letter(p));
                }
                methods.add(m.getName() + " " + parameters + " " + letter(m.getReturnType()));
                CHECK.due(m.getName() + " is public", Modifier.isPublic(m.getModifiers()), true);
            }
        }
        CHECK.dueText("methods", methods.toString(), new TreeSet<>(Arrays.asList(FACE)).toString());
        for (Field f : type.getDeclaredFields()) {
            CHECK.due(f.getName() + " is private, or NONE",
                Modifier.isPrivate(f.getModifiers()) || f.getName().equals("NONE") || f.isSynthetic(), true);
        }
        Constructor<?>[] made = type.getDeclaredConstructors();
        CHECK.due("constructors", made.length, 1);
        CHECK.due("without parameters", made[0].getParameterCount(), 0);
    }

    private static void names() {
        Set<String> face = new HashSet<>();
        for (String line : FACE) {
            face.add(line.substring(0, line.indexOf(' ')));
        }
        List<Class<?>> inside = new ArrayList<>(Arrays.asList(LidCourt.class.getDeclaredClasses()));
        CHECK.due("twelve classes at most", inside.size() + 1 <= 12, true);
        for (Class<?> c : inside) {
            CHECK.due(c.getName() + " is static", Modifier.isStatic(c.getModifiers()), true);
            CHECK.due(c.getName() + " is not public", Modifier.isPublic(c.getModifiers()), false);
            for (Method m : c.getDeclaredMethods()) {
                CHECK.due(c.getName() + "." + m.getName() + " has a name of its own", face.contains(m.getName()), false);
            }
        }
        inside.add(LidCourt.class);
        for (Class<?> c : inside) {
            int fields = 0;
            for (Field f : c.getDeclaredFields()) {
                fields += Modifier.isStatic(f.getModifiers()) ? 0 : 1;
                CHECK.due(f.getName() + ": static ones are final",
                    !Modifier.isStatic(f.getModifiers()) || Modifier.isFinal(f.getModifiers()), true);
            }
            CHECK.due(c.getName() + " has twenty fields at most", fields <= 20, true);
            for (Method m : c.getDeclaredMethods()) {
                CHECK.due(m.getName() + " has seven parameters at most", m.getParameterCount() <= 7, true);
            }
        }
    }

    private static String withoutComments(String source) {
        return source.replaceAll("(?s)/\\*.*?\\*/", "").replaceAll("//[^\n]*", "");
    }

    private static void words(String code) {
        String[] ruledOut = {
            "->", "::", "\\btry\\s*\\{", "\\bcatch\\b", "\\bfinally\\b", "\\bsynchronized\\b", "\\bassert\\b", "\\binstanceof\\b",
            "\\brecord\\b", "\\bvar\\b", "\\bSystem\\.(?!arraycopy)", "\\bdouble\\b", "\\bfloat\\b", "\\bhashCode\\b", "Exact\\b",
            "\\bordinal\\b", "MAX_VALUE", "MIN_VALUE", "\\bimport (?!java\\.util\\.NoSuchElementException;)", "\\bpackage\\b", "\"\\s*\\+", "\\+\\s*\"",
            "\\bprotected\\b", "static\\s*\\{", "while\\s*\\(true\\)", "for\\s*\\(;;\\)", "\\bnew (?!NoSuchElementException\\(\\))\\w+Exception"
        };
        for (String pattern : ruledOut) {
            Matcher found = Pattern.compile(pattern).matcher(code);
            CHECK.dueText("ruled out: " + pattern, found.find() ? found.group() : "", "");
        }
        for (int i = 0; i < code.length(); i++) {
            if (code.charAt(i) > 126) {
                CHECK.due("a sign above 126 at " + i, code.charAt(i), 0);
            }
        }
    }

    /** A method's head stands four or eight blanks from the left, and so does the bracket that ends it. */
    private static void methodsAreShort(String source) {
        String[] lines = source.split("\n");
        for (int i = 0; i < lines.length; i++) {
            String line = lines[i];
            if (!line.matches("( {4}| {8})[a-zA-Z].*\\) (throws \\w+ )?\\{") || line.contains(" class ")) {
                continue;
            }
            String indent = line.startsWith("        ") ? "        " : "    ";
            int last = i;
            while (last < lines.length && !lines[last].equals(indent + "}")) {
                last++;
            }
            CHECK.due("sixty lines at most from line " + (i + 1), last - i + 1 <= 60, true);
        }
    }
}
