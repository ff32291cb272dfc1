/** Promises 1 to 3 and 47: a new object, feed, end, count. */
public final class TapeTest {
    private static final Check CHECK = new Check("TapeTest");

    public static void main(String[] args) {
        newObject();
        feed();
        end();
        count();
        CHECK.close();
    }

    private static void newObject() {
        LidCourt x = new LidCourt();
        CHECK.due("NONE", LidCourt.NONE, -1);
        int[] counts = {0, 0, 0, 3, 1, 0};
        for (int what = 0; what < counts.length; what++) {
            CHECK.due("count(" + what + ") when new", x.count(what), counts[what]);
        }
        for (int what = 0; what < 8; what++) {
            CHECK.due("now(" + what + ") when new", x.now(what), 0);
        }
        CHECK.due("fault() when new", x.fault(), 0);
        CHECK.due("undo() when new", x.undo(), -1);
        CHECK.due("said(-1) when new", x.said(-1), -1);
        CHECK.due("court() of an empty tape", x.court(), 0);
    }

    private static void feed() {
        LidCourt x = new LidCourt();
        CHECK.due("feed", x.feed(0x00010200, 0, 0, 0, 0), 20);
        for (int i = 2; i <= 47; i++) {
            CHECK.due("feed " + i, x.feed(i, i, i, i, i), 20 * i);
        }
        CHECK.due("feed past 940", x.feed(0, 0, 0, 0, 0), -1);
        CHECK.due("bytes then", x.count(5), 940);
        CHECK.due("end(921)", x.end(921), true);
        CHECK.due("feed of 921 and 20", x.feed(0, 0, 0, 0, 0), -1);
        CHECK.due("none came", x.count(5), 921);
        CHECK.due("end(920)", x.end(920), true);
        CHECK.due("feed of 920 and 20", x.feed(0, 0, 0, 0, 0), 940);

        // "one 20;floor ab 7 8;" as five numbers, the highest byte first.
        LidCourt y = new LidCourt();
        CHECK.due("feed of a text", y.feed(0x6f6e6520, 0x32303b66, 0x6c6f6f72, 0x20616220, 0x3720383b), 20);
        CHECK.due("court()", y.court(), 2);
        CHECK.due("one", y.count(3), 20);
        CHECK.due("floors", y.count(1), 1);
        CHECK.due("the tape is empty", y.count(5), 0);

        // A byte of 128 and more is no sign of a number: it is no TOKEN at its place.
        LidCourt z = new LidCourt();
        z.feed(0x6f6e6520, 0x323bff20, 0x20202020, 0x20202020, 0x20202020);
        CHECK.due("court() with byte 255", z.court(), -1 - 6);
        CHECK.due("fault()", z.fault(), 1);
    }

    private static void end() {
        LidCourt x = new LidCourt();
        CHECK.due("end(0) when empty", x.end(0), true);
        CHECK.due("end(1) when empty", x.end(1), false);
        CHECK.due("end(-1) when empty", x.end(-1), false);
        Check.lay(x, "one 5;dent 6;");
        CHECK.due("end(14)", x.end(14), false);
        CHECK.due("end(-1)", x.end(-1), false);
        CHECK.due("end(least)", x.end(Integer.MIN_VALUE), false);
        CHECK.due("end(most)", x.end(Integer.MAX_VALUE), false);
        CHECK.due("bytes still", x.count(5), 13);
        CHECK.due("end(13)", x.end(13), true);
        CHECK.due("end(6)", x.end(6), true);
        CHECK.due("court() of the first six bytes", x.court(), 1);
        CHECK.due("one", x.count(3), 5);
        CHECK.due("dent", x.count(4), 1);
    }

    private static void count() {
        LidCourt x = Check.told("juror a 1 1 0;juror b 1 1 0;juror c 1 1 0;floor f 0 0;floor g 0 0;case d f;one 7;dent 8;");
        x.feed(0, 0, 0, 0, 0);
        int[] counts = {3, 2, 1, 7, 8, 20};
        for (int what = 0; what < counts.length; what++) {
            CHECK.due("count(" + what + ")", x.count(what), counts[what]);
        }
        CHECK.due("count(6)", x.count(6), -1);
        CHECK.due("count(-1)", x.count(-1), -1);
        CHECK.due("count(most)", x.count(Integer.MAX_VALUE), -1);
    }
}
