import java.lang.management.ManagementFactory;
import java.lang.reflect.InvocationTargetException;
import java.lang.reflect.Method;
import java.lang.reflect.Modifier;
import java.util.Arrays;
import java.util.Comparator;
import java.util.HashSet;
import java.util.NoSuchElementException;
import java.util.Set;

/** Any arguments in many states: nothing is thrown but what is promised, and calls make next to no objects. */
public final class ExtremesTest {
    private static final Check CHECK = new Check("ExtremesTest");
    private static final int[] NUMBERS = {
        Integer.MIN_VALUE, Integer.MIN_VALUE + 1, -1000, -33, -2, -1, 0, 1, 2, 3, 4, 5, 6, 7, 9, 10, 11, 20, 30, 31, 32, 33, 60,
        61, 64, 399, 400, 900, 940, 1 << 30, Integer.MAX_VALUE - 1, Integer.MAX_VALUE
    };
    private static final Set<String> MAY_THROW = new HashSet<>(Arrays.asList("juror", "trial", "likely", "panel"));
    private static Method[] methods;

    public static void main(String[] args) throws ReflectiveOperationException {
        methods = Arrays.stream(LidCourt.class.getDeclaredMethods()).filter(m -> Modifier.isPublic(m.getModifiers()))
            .sorted(Comparator.comparing(Method::getName)).toArray(Method[]::new);
        String full = fullCourt();
        String[] courts = {"", "floor f 0 0;case p f;", "juror a 1 1 12;", "juror a 1 1 0 seated;floor f 0 20;case p f;dent 9;", full};
        for (String court : courts) {
            for (int days = 0; days < 2; days++) {
                LidCourt x = Check.told(court);
                for (int i = 0; i < 7 * days; i++) {
                    x.days(60);
                }
                Check.sentence(x, "not dented or (sitting and holding)");
                x.image(0);
                callAll(x);
            }
        }
        everyByteOnTheTape();
        longestBook(full);
        room(full);
        CHECK.close();
    }

    private static String fullCourt() {
        StringBuilder text = new StringBuilder();
        for (int i = 0; i < 10; i++) {
            text.append("juror j").append((char) ('a' + i)).append(' ').append(60 - i * i % 7).append(" 20 ").append(i + 1)
                .append(" seated;");
        }
        for (int i = 0; i < 4; i++) {
            text.append("floor f").append((char) ('a' + i)).append(" 20 ").append(i).append(";");
        }
        for (int i = 0; i < 5; i++) {
            text.append("case c").append((char) ('a' + i)).append(" f").append((char) ('a' + i % 4)).append(";");
        }
        return text.append("one 3;dent 2;").toString();
    }

    private static void callAll(LidCourt x) throws ReflectiveOperationException {
        for (Method m : methods) {
            int many = m.getParameterCount();
            for (int i = 0; i < (many == 0 ? 2 : NUMBERS.length); i++) {
                for (int k = 0; k < (many < 2 ? 1 : NUMBERS.length); k++) {
                    Object[] arguments = new Object[many];
                    for (int p = 0; p < many; p++) {
                        arguments[p] = NUMBERS[p == 0 ? i : p == 1 ? k : (i + 3 * k + p) % NUMBERS.length];
                    }
                    call(x, m, arguments);
                }
            }
        }
    }

    private static void call(LidCourt x, Method m, Object[] arguments) throws ReflectiveOperationException {
        boolean asDue = true;
        try {
            m.invoke(x, arguments);
        } catch (InvocationTargetException e) {
            asDue = MAY_THROW.contains(m.getName()) && e.getCause().getClass() == NoSuchElementException.class;
        }
        if (!asDue) {
            CHECK.due(m.getName() + Arrays.toString(arguments) + " throws what it should not", 1, 0);
        }
        CHECK.due(m.getName(), 0, 0);
    }

    private static void everyByteOnTheTape() {
        LidCourt x = new LidCourt();
        for (int kind = 0; kind < 4; kind++) {
            for (int b = 0; b < 256; b++) {
                byte[] bytes = new byte[1 + b % 7 * 156];
                Arrays.fill(bytes, (byte) b);
                Check.lay(x, Arrays.copyOf(bytes, Math.min(bytes.length, 940)));
                int got = kind == 0 ? x.court() : kind == 1 ? x.book(1) : kind == 2 ? x.sentence() : x.heard();
                CHECK.due("a text of bytes " + b, got <= 0, true);
            }
        }
    }

    private static void longestBook(String full) {
        LidCourt x = Check.told(full);
        CHECK.due("40 LINES", Check.book(x, 1, "ja holds;ja drops;".repeat(20)), -1);
        CHECK.due("told(1)", x.told(1), 40);
        CHECK.due("20 ONES 8 within", Check.sentence(x, "((((((not sitting))))))or((((((not sitting or holding))))))or dented"
            + " and dented and dented"), 20);
        CHECK.due("said(-1)", x.said(-1), 0);
    }

    /** A run's calls live in one room: the dearest calls make nothing. */
    private static void room(String full) {
        com.sun.management.ThreadMXBean threads = (com.sun.management.ThreadMXBean) ManagementFactory.getThreadMXBean();
        LidCourt x = Check.told(full);
        dearest(x);
        long thread = Thread.currentThread().getId();
        long before = threads.getThreadAllocatedBytes(thread);
        for (int i = 0; i < 50; i++) {
            dearest(x);
        }
        long made = threads.getThreadAllocatedBytes(thread) - before;
        CHECK.due("50 times the dearest calls make some bytes at most: " + made, made < 20_000, true);
        before = threads.getThreadAllocatedBytes(thread);
        LidCourt another = new LidCourt();
        made = threads.getThreadAllocatedBytes(thread) - before;
        CHECK.due("an object has 100000 bytes at most: " + made, made < 100_000 && another.count(0) == 0, true);
    }

    private static void dearest(LidCourt x) {
        x.agree(0);
        x.jury(0, 5);
        x.likely(0, 0);
        x.panel(0, 5, 1);
        x.strikes(0, 1);
        x.beats(0);
        x.roll(0);
        x.odds(0, 30, 7);
        x.drawn(1, 1);
        x.sit(0);
        x.rise(0);
        x.undo();
        x.image(0);
        x.restore(0);
        x.feed(0x63706e74, 0x64656e74, 0x20202020, 0, 0);
        x.sentence();
        x.said(-1);
        x.end(0);
        x.book(1);
        x.court();
        x.restore(0);
    }
}
