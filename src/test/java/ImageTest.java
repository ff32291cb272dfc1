/** Promises 45 and 46: image and restore. */
public final class ImageTest {
    private static final Check CHECK = new Check("ImageTest");
    private static final String COURT = "juror a 10 8 3 seated;juror b 12 9 4 seated;juror c 30 2 5;"
        + "floor f 4 3;floor g 1 1;case p f;case q g;tuned c g 13;one 2;dent 5;";

    public static void main(String[] args) {
        noSuch();
        allIsKept();
        twoPlaces();
        whatStays();
        CHECK.close();
    }

    private static void noSuch() {
        LidCourt x = Check.told(COURT);
        for (int k : new int[] {-1, 2, Integer.MIN_VALUE, Integer.MAX_VALUE}) {
            CHECK.due("image(" + k + ")", x.image(k), false);
            CHECK.due("restore(" + k + ")", x.restore(k), false);
        }
        x.sit(2);
        CHECK.due("restore(0) of nothing", x.restore(0), false);
        CHECK.due("restore(1) of nothing", x.restore(1), false);
        CHECK.due("image(1)", x.image(1), true);
        CHECK.due("restore(0) of nothing still", x.restore(0), false);
        CHECK.due("a restore() that is false leaves what can be undone", x.undo(), 0);
    }

    private static void allIsKept() {
        LidCourt x = Check.told(COURT);
        x.hold(1);
        x.tryCase(0);
        x.days(4);
        x.sit(2);
        x.hold(0);
        x.tryCase(1);
        Check.sentence(x, "rings g a or dents > 1");
        String before = Check.allThatIsSo(x);
        CHECK.due("image(0)", x.image(0), true);
        CHECK.dueText("an image changes nothing", Check.allThatIsSo(x), before);
        CHECK.due("what can be undone stays", x.undo(), 5);
        x.days(60);
        x.beat(1);
        x.appeal(0);
        Check.sentence(x, "sitting");
        Check.court(x, "juror z 1 1 1;one 9;");
        CHECK.due("another COURT", x.count(0), 1);
        CHECK.due("restore(0)", x.restore(0), true);
        CHECK.dueText("all is as kept", Check.allThatIsSo(x), before);
        CHECK.due("nothing can be undone", x.undo(), -1);
        x.drawn(30, 4);
        CHECK.due("restore(0) again", x.restore(0), true);
        CHECK.dueText("all is as kept again", Check.allThatIsSo(x), before);
        CHECK.due("the names, too", Check.book(x, 0, "c rises;appeal q;day 1;try q;"), -1);
        CHECK.due("nothing can be undone", x.undo(), -1);
    }

    private static void twoPlaces() {
        LidCourt x = Check.told(COURT);
        Check.sentence(x, "sitting");
        x.image(0);
        Check.court(x, "juror z 1 1 1;");
        x.image(1);
        CHECK.due("restore(0)", x.restore(0), true);
        CHECK.due("jurors", x.count(0), 3);
        CHECK.due("said(-1)", x.said(-1), 2);
        CHECK.due("restore(1)", x.restore(1), true);
        CHECK.due("jurors", x.count(0), 1);
        CHECK.due("no SENTENCE was kept", x.said(-1), -1);
        x.sit(0);
        x.image(0);
        x.rise(0);
        CHECK.due("restore(0) of the latest", x.restore(0), true);
        CHECK.due("who sits", x.now(1), 1);
        CHECK.due("jurors", x.count(0), 1);
        LidCourt empty = new LidCourt();
        CHECK.due("image(0) of a new object", empty.image(0), true);
        Check.court(empty, COURT);
        CHECK.due("restore(0)", empty.restore(0), true);
        CHECK.due("jurors", empty.count(0), 0);
        CHECK.due("one", empty.count(3), 3);
    }

    private static void whatStays() {
        LidCourt x = Check.told(COURT);
        x.image(0);
        x.agree(0);
        x.jury(0, 2);
        x.panel(0, 2, 0);
        Check.heard(x, 0, 14, 14);
        x.strikes(0, 1);
        x.beats(0);
        x.roll(0);
        Check.book(x, 1, "day 3;a sits;");
        Check.court(x, "one 21;");
        Check.lay(x, "abc");
        long[] before = latest(x);
        CHECK.due("restore(0)", x.restore(0), true);
        long[] behind = latest(x);
        for (int i = 0; i < before.length; i++) {
            CHECK.due("what call " + i + " told last", behind[i], before[i]);
        }
        CHECK.due("fault()", x.fault(), 2);
        CHECK.due("bytes of the tape", x.count(5), 3);
        CHECK.due("DAY as kept", x.now(0), 0);
    }

    private static long[] latest(LidCourt x) {
        return new long[] {x.agreed(), x.jurors(), x.panelled(), x.surely(), x.ask(), x.struck(), x.beating(), x.byteAt(0),
            x.fault(), x.told(0), x.told(1), x.told(2), x.told(3), x.count(5)};
    }
}
