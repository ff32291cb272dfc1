import java.nio.charset.StandardCharsets;
import java.util.NoSuchElementException;

/** What the tests share: counting answers that are not as due, and laying texts on the tape. */
final class Check {
    interface Call {
        long answer();
    }

    private final String test;
    private String about = "";
    private int wrong;
    private int calls;

    Check(String test) {
        this.test = test;
    }

    /** Whose words the answers behind this are looked at for; printed with each that is not as due. */
    void about(String words) {
        about = words.isEmpty() ? "" : words + ": ";
    }

    int calls() {
        return calls;
    }

    void due(String call, long got, long want) {
        calls++;
        if (got != want) {
            wrong++;
            System.out.println(test + ": " + about + call + " answered " + got + ", due is " + want);
        }
    }

    void due(String call, boolean got, boolean want) {
        due(call, got ? 1 : 0, want ? 1 : 0);
    }

    void dueText(String call, String got, String want) {
        calls++;
        if (!got.equals(want)) {
            wrong++;
            System.out.println(test + ": " + about + call + " answered '" + got + "', due is '" + want + "'");
        }
    }

    void dueNoSuch(String call, Call made) {
        calls++;
        try {
            long got = made.answer();
            wrong++;
            System.out.println(test + ": " + about + call + " answered " + got + ", due is NoSuchElementException");
        } catch (NoSuchElementException e) {
            return;
        }
    }

    /** Prints how it went and ends with exit code 1 if an answer was not as due. */
    void close() {
        System.out.println(test + ": " + (calls - wrong) + " of " + calls + " answers are as due");
        if (wrong != 0 || calls == 0) {
            System.exit(1);
        }
    }

    /** Lays the text behind the tape; false if it has no room there. */
    static boolean lay(LidCourt x, String text) {
        return lay(x, text.getBytes(StandardCharsets.ISO_8859_1));
    }

    static boolean lay(LidCourt x, byte[] bytes) {
        int before = x.count(5);
        for (int i = 0; i < bytes.length; i += 20) {
            if (x.feed(four(bytes, i), four(bytes, i + 4), four(bytes, i + 8), four(bytes, i + 12),
                    four(bytes, i + 16)) == LidCourt.NONE) {
                x.end(before);
                return false;
            }
        }
        return x.end(before + bytes.length);
    }

    static int four(byte[] bytes, int from) {
        int number = 0;
        for (int i = from; i < from + 4; i++) {
            number = number << 8 | (i < bytes.length ? bytes[i] & 255 : 0);
        }
        return number;
    }

    static int court(LidCourt x, String text) {
        lay(x, text);
        return x.court();
    }

    static int book(LidCourt x, int lives, String text) {
        lay(x, text);
        return x.book(lives);
    }

    static int sentence(LidCourt x, String text) {
        lay(x, text);
        return x.sentence();
    }

    static int heard(LidCourt x, int floor, int lowest, int highest) {
        lay(x, new byte[] {(byte) floor, (byte) lowest, (byte) highest});
        return x.heard();
    }

    static String roll(LidCourt x, int c) {
        StringBuilder text = new StringBuilder();
        int bytes = x.roll(c);
        for (int i = 0; i < bytes; i++) {
            text.append((char) x.byteAt(i));
        }
        return text.toString();
    }

    /** A new object with this COURT. */
    static LidCourt told(String text) {
        LidCourt x = new LidCourt();
        if (court(x, text) < 0) {
            throw new IllegalStateException("a test's COURT has a FAULT: " + text);
        }
        return x;
    }

    /** All that is so, as a text, so that two states can be compared whole. */
    static String allThatIsSo(LidCourt x) {
        StringBuilder all = new StringBuilder("now");
        for (int what = 0; what < 8; what++) {
            all.append(' ').append(x.now(what));
        }
        all.append("; count");
        for (int what = 0; what < 5; what++) {
            all.append(' ').append(x.count(what));
        }
        for (int j = 0; j < x.count(0); j++) {
            all.append("; juror");
            for (int what = 0; what < 7; what++) {
                all.append(' ').append(x.juror(j, what));
            }
            for (int f = 0; f < x.count(1); f++) {
                all.append(' ').append(x.ring(j, f)).append('/').append(x.lasts(j, f));
            }
        }
        for (int c = 0; c < x.count(2); c++) {
            all.append("; case");
            for (int what = 0; what < 5; what++) {
                all.append(' ').append(x.trial(c, what));
            }
            all.append(' ').append(roll(x, c));
        }
        return all.append("; said ").append(x.said(-1)).append(' ').append(x.said(0)).toString();
    }
}
