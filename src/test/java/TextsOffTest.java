import java.nio.charset.StandardCharsets;
import java.util.ArrayList;
import java.util.List;

/**
 * Promises 4, 5, 41 to 44: texts with each FAULT in them or none, each of them one byte or one TOKEN off in every way, so that
 * FAULTS meet at one TOKEN; PlainCourt tells what is due.
 */
public final class TextsOffTest {
    private static final Check CHECK = new Check("TextsOffTest");
    private static final String BYTES = "abfz0159;<=>() \n\t.A`{/:?\0\u00e9\u00ff";
    private static final String TOKENS = "a b c f g h one dent juror floor case tuned seated sits beaten try appeal day and or not "
        + "sitting dented rings pitch dents number ; < = > ( ) 0 1 12 13 20 21 60 61 999 0001 a1 1a f0 abcdefg abcdefgh one1 . A";
    private static final String COURT = "juror a 9 5 6;juror b 12 7 3 seated;floor f 1 2;floor g 3 4;case c f;tuned a f 5;";

    public static void main(String[] args) {
        for (String text : courts()) {
            offInAllWays(text, 0);
        }
        for (String text : books()) {
            offInAllWays(text, 1);
        }
        for (String text : sentences()) {
            offInAllWays(text, 2);
        }
        for (String piece : new String[] {"one 3;dent 21;", "juror abcdefg 1 1 1;", "one 3;one1 3;", "one 0003;", "one 3 ", "\0;"}) {
            overTheEdge(piece, 0, 900);
        }
        for (String piece : new String[] {"a sits;try x;", "day 61;b rises;", "appeal c;a1 sits;", "x sits;", "b abcdefgh;", "a ;"}) {
            overTheEdge(piece, 1, 400);
        }
        for (String piece : new String[] {"not (rings f a)", "pitch < 0001", "sitting or rings a f", "dented x1", "holding "}) {
            overTheEdge(piece, 2, 200);
        }
        CHECK.close();
    }

    /** Lays the piece at each place round the most bytes that the text may have, alone and with blanks behind it. */
    private static void overTheEdge(String piece, int sort, int most) {
        for (int ahead = most - piece.length() - 2; ahead <= most + 2; ahead++) {
            same(" ".repeat(ahead) + piece, sort);
            same("\n".repeat(ahead) + piece + "   ", sort);
        }
    }

    private static String[] courts() {
        StringBuilder jurors = new StringBuilder();
        for (char name = 'a'; name <= 'j'; name++) {
            jurors.append("juror ").append(name).append(" 1 1 1;");
        }
        String floors = "floor f 1 1;floor g 1 1;floor h 1 1;floor i 1 1;";
        return new String[] {
            COURT + "one 4;dent 2;",
            COURT + "tuned a f 5;",
            COURT + "tuned b f 5;tuned b g 5;tuned b f 1;",
            COURT + "juror a 1 1 1;",
            COURT + "case f c;",
            COURT + "one 4;one 5;",
            COURT + "dent 4;one 1;dent 5;",
            jurors + "juror k 1 1 1;",
            floors + "floor k 1 1;",
            "floor f 1 1;case a f;case b f;case c f;case d f;case e f;case g f;",
        };
    }

    private static String[] books() {
        return new String[] {
            "a sits;b rises;a holds;a drops;try c;a beaten;day 1;appeal c;",
            "b sits;",
            "f sits;c sits;x sits;",
            "try a;",
            "day 60;day 61;",
            "day 1;".repeat(40) + "a sits;",
            "day 1;".repeat(40) + "try c;",
            "day 1;".repeat(40) + "x sits;",
        };
    }

    private static String[] sentences() {
        return new String[] {
            "sitting or not (holding and dented) or rings f a and pitch < 10",
            "length = 7 or dents > 0 and number < 1 or rings g b",
            "rings a f",
            "not ".repeat(8) + "sitting",
            "not ".repeat(7) + "sitting",
            "(".repeat(8) + "sitting" + ")".repeat(8),
            "dented or ".repeat(19) + "dented",
            "dented or ".repeat(19) + "not",
            "dented and ".repeat(17) + "dented and (dented)",
        };
    }

    private static void offInAllWays(String text, int sort) {
        same(text, sort);
        for (int i = 0; i <= text.length(); i++) {
            String ahead = text.substring(0, i);
            String behind = text.substring(Math.min(text.length(), i + 1));
            same(ahead, sort);
            same(ahead + behind, sort);
            for (char sign : BYTES.toCharArray()) {
                same(ahead + sign + behind, sort);
                same(ahead + sign + text.substring(i), sort);
            }
        }
        List<String> tokens = tokensOf(text);
        for (int i = 0; i < tokens.size(); i++) {
            String ahead = String.join(" ", tokens.subList(0, i));
            String behind = String.join(" ", tokens.subList(i + 1, tokens.size()));
            for (String other : TOKENS.split(" ")) {
                same(ahead + " " + other + " " + behind, sort);
                same(ahead + " " + other + " " + tokens.get(i) + " " + behind, sort);
            }
        }
    }

    private static List<String> tokensOf(String text) {
        List<String> tokens = new ArrayList<>();
        for (String piece : text.split("(?<=[;<=>()])|(?=[;<=>()])|\\s+")) {
            if (!piece.isBlank()) {
                tokens.add(piece.trim());
            }
        }
        return tokens;
    }

    private static void same(String text, int sort) {
        byte[] bytes = text.getBytes(StandardCharsets.ISO_8859_1);
        LidCourt x = new LidCourt();
        PlainCourt plain = new PlainCourt();
        if (sort > 0) {
            Check.court(x, COURT);
            plain.tape.append(COURT);
            plain.court();
        }
        Check.lay(x, bytes);
        plain.tape.append(text);
        String call = "'" + text + "'";
        if (sort == 0) {
            CHECK.due("court() of " + call, x.court(), plain.court());
        } else if (sort == 1) {
            CHECK.due("book(1) of " + call, x.book(1), plain.book(1));
            CHECK.due("told(0) of " + call, x.told(0), plain.told(0));
        } else {
            CHECK.due("sentence() of " + call, x.sentence(), plain.sentence());
            CHECK.due("said(NONE) of " + call, x.said(-1), plain.said(-1));
        }
        CHECK.due("fault() of " + call, x.fault(), plain.fault());
        CHECK.due("count(0) behind " + call, x.count(0), plain.count(0));
    }
}
