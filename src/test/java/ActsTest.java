/** Promises 11 to 19: sit, rise, hold, drop, beat, tryCase, appeal, days, undo. */
public final class ActsTest {
    private static final Check CHECK = new Check("ActsTest");
    private static final String COURT = "juror a 10 8 3 seated;juror b 12 9 4 seated;juror c 30 2 5;"
        + "floor f 4 3;floor g 0 0;case p f;case q g;one 2;";

    public static void main(String[] args) {
        sitAndRise();
        holdAndDrop();
        beat();
        tryCase();
        dents();
        appeal();
        days();
        undo();
        eachChangesItsOwnAlone();
        noSuch();
        CHECK.close();
    }

    private static void sitAndRise() {
        LidCourt x = Check.told(COURT);
        CHECK.due("sit(2)", x.sit(2), 0);
        CHECK.due("who sits", x.now(1), 7);
        CHECK.due("sit(2) again", x.sit(2), 1);
        CHECK.due("sit(0) who was seated", x.sit(0), 1);
        CHECK.due("rise(1)", x.rise(1), 0);
        CHECK.due("rise(1) again", x.rise(1), 1);
        CHECK.due("who sits", x.now(1), 5);
    }

    private static void holdAndDrop() {
        LidCourt x = Check.told(COURT);
        CHECK.due("drop(0)", x.drop(0), 1);
        CHECK.due("hold(0)", x.hold(0), 0);
        CHECK.due("hold(0) again", x.hold(0), 1);
        CHECK.due("hold(2), who does not sit", x.hold(2), 0);
        CHECK.due("who holds", x.now(2), 5);
        CHECK.due("drop(0)", x.drop(0), 0);
        CHECK.due("drop(0) again", x.drop(0), 1);
        CHECK.due("rise(0)", x.rise(0), 0);
        CHECK.due("hold(1)", x.hold(1), 0);
        CHECK.due("rise(1) who holds", x.rise(1), 0);
        CHECK.due("he holds still", x.now(2), 6);
        CHECK.due("days(1)", x.days(1), 1);
        CHECK.due("nobody holds any more", x.now(2), 0);
        CHECK.due("who sits stays", x.now(1), 0);
    }

    private static void beat() {
        LidCourt x = Check.told(COURT);
        CHECK.due("beat(0) without dents", x.beat(0), 1);
        x.tryCase(0);
        x.days(1);
        x.tryCase(1);
        CHECK.due("dents", x.juror(0, 5), 2);
        CHECK.due("beat(0)", x.beat(0), 0);
        CHECK.due("none are left", x.juror(0, 5), 0);
        CHECK.due("beat(0) again", x.beat(0), 1);
        CHECK.due("all dents", x.now(5), 2);
    }

    private static void tryCase() {
        LidCourt x = Check.told(COURT);
        x.hold(0);
        x.hold(1);
        CHECK.due("all who sit hold", x.tryCase(0), 3);
        x.hold(2);
        x.drop(2);
        CHECK.due("who does not sit does not drop", x.tryCase(0), 3);
        x.sit(2);
        CHECK.due("one lid is one ring", x.tryCase(0), 0);
        CHECK.due("FREE", x.trial(0, 1), 1);
        CHECK.due("a CASE was tried on this DAY", x.tryCase(1), 2);
        CHECK.due("tried comes ahead of this DAY", x.tryCase(0), 1);
        x.rise(2);
        CHECK.due("this DAY comes ahead of nobody", x.tryCase(1), 2);
        x.days(1);
        x.rise(0);
        x.rise(1);
        CHECK.due("nobody sits", x.tryCase(1), 3);
        CHECK.due("tried comes ahead of nobody", x.tryCase(0), 1);
        // 'one' is 2: 10 and 12 are one ring, 10 and 13 are not.
        LidCourt y = Check.told("juror a 10 1 0 seated;juror b 12 1 0 seated;floor f 0 0;case p f;one 2;");
        y.tryCase(0);
        CHECK.due("just as many as 'one' tells", y.trial(0, 1), 1);
        LidCourt z = Check.told("juror a 10 1 0 seated;juror b 13 1 0 seated;floor f 0 0;case p f;one 2;");
        z.tryCase(0);
        CHECK.due("one more than 'one' tells", z.trial(0, 1), 2);
    }

    private static void dents() {
        StringBuilder text = new StringBuilder("juror a 60 1 0 seated;juror b 39 1 0 seated;floor f 0 0;one 20;dent 1;case p f;");
        LidCourt x = Check.told(text.toString());
        // b holds each time but the last, so that the CASE can be appealed and tried again.
        for (int i = 0; i < 21; i++) {
            x.hold(1);
            CHECK.due("tryCase", x.tryCase(0), 0);
            CHECK.due("dents behind trial " + (i + 1), x.juror(0, 5), Math.min(20, i + 1));
            CHECK.due("drops behind trial " + (i + 1), x.juror(0, 6), i + 1);
            CHECK.due("appeal", x.appeal(0), 0);
            x.days(1);
        }
        x.beat(0);
        // 60 against 39: 21 apart, a dent counts behind the verdict.
        CHECK.due("tryCase", x.tryCase(0), 0);
        CHECK.due("GUILTY", x.trial(0, 1), 2);
        CHECK.due("the dent comes behind the verdict", x.ring(0, 0), 59);
    }

    private static void appeal() {
        LidCourt x = Check.told(COURT);
        CHECK.due("not tried", x.appeal(0), 1);
        x.tryCase(0);
        CHECK.due("nobody held on", x.appeal(0), 2);
        x.days(1);
        x.hold(2);
        x.tryCase(1);
        CHECK.due("who held does not sit", x.appeal(1), 2);
        LidCourt y = Check.told(COURT);
        y.hold(0);
        y.tryCase(0);
        y.rise(0);
        y.days(1);
        CHECK.due("by who held on then", y.appeal(0), 0);
        CHECK.due("open", y.trial(0, 1), 0);
        CHECK.due("open again: it was not tried since", y.appeal(0), 1);
        CHECK.due("tried again", y.tryCase(0), 0);
        CHECK.due("the last trial counts", y.appeal(0), 2);
        LidCourt z = Check.told(COURT);
        z.hold(0);
        z.tryCase(0);
        z.appeal(0);
        CHECK.due("an appeal makes it no other DAY", z.tryCase(0), 2);
    }

    private static void days() {
        LidCourt x = Check.told(COURT);
        CHECK.due("days(0)", x.days(0), -1);
        CHECK.due("days(-1)", x.days(-1), -1);
        CHECK.due("days(61)", x.days(61), -1);
        CHECK.due("DAY", x.now(0), 0);
        for (int i = 1; i <= 6; i++) {
            CHECK.due("days(60)", x.days(60), 60);
            CHECK.due("DAY", x.now(0), 60 * i);
        }
        CHECK.due("days(39)", x.days(39), 39);
        CHECK.due("days(2) with one left", x.days(2), 1);
        CHECK.due("DAY", x.now(0), 400);
        x.hold(0);
        int more = x.undo();
        x.hold(0);
        CHECK.due("days(1) with none left", x.days(1), 0);
        CHECK.due("he holds still", x.now(2), 1);
        CHECK.due("no days() to undo", x.undo(), more);
        CHECK.due("nobody holds", x.now(2), 0);
        CHECK.due("acts go on when all are over", x.tryCase(0), 0);
        CHECK.due("on DAY 400", x.trial(0, 2), 400);
        CHECK.due("once", x.tryCase(1), 2);
    }

    private static void undo() {
        LidCourt x = Check.told(COURT);
        CHECK.due("undo() of none", x.undo(), -1);
        x.sit(2);
        x.rise(0);
        x.hold(1);
        x.drop(1);
        x.hold(1);
        x.tryCase(0);
        x.appeal(0);
        x.beat(2);
        CHECK.due("refused: no act", x.beat(2), 1);
        CHECK.due("no such one: no act", x.sit(9), -1);
        CHECK.due("beaten", x.now(5), 0);
        CHECK.due("undo() beat", x.undo(), 7);
        CHECK.due("dents", x.now(5), 1);
        CHECK.due("undo() appeal", x.undo(), 6);
        CHECK.due("FREE", x.now(3), 1);
        CHECK.due("undo() tryCase", x.undo(), 5);
        CHECK.due("no trial", x.now(6), 0);
        CHECK.due("not on this DAY", x.now(7), 0);
        CHECK.due("no dents", x.now(5), 0);
        CHECK.due("no drops", x.juror(2, 6), 0);
        CHECK.due("open", x.trial(0, 1), 0);
        CHECK.due("never", x.trial(0, 2), -1);
        CHECK.due("undo() hold", x.undo(), 4);
        CHECK.due("undo() drop", x.undo(), 3);
        CHECK.due("he holds", x.now(2), 2);
        CHECK.due("undo() hold", x.undo(), 2);
        CHECK.due("undo() rise", x.undo(), 1);
        CHECK.due("who sits", x.now(1), 7);
        CHECK.due("undo() sit", x.undo(), 0);
        CHECK.due("who sits", x.now(1), 3);
        CHECK.due("undo() of none", x.undo(), -1);
        for (int i = 1; i <= 11; i++) {
            x.days(1);
        }
        for (int i = 7; i >= 0; i--) {
            CHECK.due("undo() of 11, 8 are kept", x.undo(), i);
        }
        CHECK.due("undo() of none", x.undo(), -1);
        CHECK.due("DAY", x.now(0), 3);
        undoDrawnAndBooks();
    }

    private static void undoDrawnAndBooks() {
        LidCourt x = Check.told(COURT);
        x.drawn(9, 5);
        CHECK.due("undo() drawn", x.undo(), 0);
        CHECK.due("DAY", x.now(0), 0);
        CHECK.due("trials", x.now(6), 0);
        Check.book(x, 0, "c sits;");
        CHECK.due("a BOOK that was judged only", x.undo(), -1);
        Check.book(x, 1, "c sits;day 4;c sits;");
        CHECK.due("DAY", x.now(0), 4);
        CHECK.due("undo() a BOOK", x.undo(), 0);
        CHECK.due("DAY", x.now(0), 0);
        CHECK.due("who sits", x.now(1), 3);
        Check.book(x, 1, "c sits;x;");
        CHECK.due("a BOOK with a FAULT", x.undo(), -1);
        x.sit(2);
        Check.sentence(x, "sitting");
        CHECK.due("undo() sit", x.undo(), 0);
        CHECK.due("the SENTENCE stays", x.said(-1), 2);
    }

    private static void eachChangesItsOwnAlone() {
        String before = "now 1 3 0 0 3 4 2 0; count 2 1 2 0 1";
        String juror0 = "; juror 10 8 3 1 0 2 2 12/5";
        String juror1 = "; juror 12 9 4 1 0 2 2 14/6";
        String cases = "; case 0 2 0 3 0 p is guilty by 2; case 0 2 0 3 0 q is guilty by 2; said -1 -1";
        LidCourt x = Check.told("juror a 10 8 3 seated;juror b 12 9 4 seated;floor f 4 3;case p f;case q f;one 0;");
        x.tryCase(0);
        x.days(1);
        x.tryCase(1);
        x.days(1);
        cases = cases.replace("case 0 2 0 3 0 q", "case 0 2 1 3 0 q");
        before = before.replace("now 1", "now 2");
        CHECK.dueText("both CASES tried", Check.allThatIsSo(x), before + juror0 + juror1 + cases);
        x.hold(0);
        CHECK.dueText("hold(0)", Check.allThatIsSo(x),
            before.replace("now 2 3 0", "now 2 3 1") + juror0.replace("1 0 2 2", "1 1 2 2") + juror1 + cases);
        x.drop(0);
        CHECK.dueText("drop(0)", Check.allThatIsSo(x), before + juror0 + juror1 + cases);
        x.rise(1);
        CHECK.dueText("rise(1)", Check.allThatIsSo(x),
            before.replace("now 2 3", "now 2 1") + juror0 + juror1.replace("1 0 2 2", "0 0 2 2") + cases);
        x.sit(1);
        CHECK.dueText("sit(1)", Check.allThatIsSo(x), before + juror0 + juror1 + cases);
        x.beat(1);
        CHECK.dueText("beat(1)", Check.allThatIsSo(x),
            before.replace("3 4 2", "3 2 2") + juror0 + juror1.replace("0 2 2 14", "0 0 2 16") + cases);
        x.undo();
        CHECK.dueText("undo()", Check.allThatIsSo(x), before + juror0 + juror1 + cases);
        x.days(3);
        CHECK.dueText("days(3)", Check.allThatIsSo(x), before.replace("now 2", "now 5") + juror0 + juror1 + cases);
    }

    private static void noSuch() {
        LidCourt x = Check.told(COURT);
        for (int n : new int[] {-1, 3, Integer.MIN_VALUE, Integer.MAX_VALUE, 32, 64}) {
            CHECK.due("sit", x.sit(n), -1);
            CHECK.due("rise", x.rise(n), -1);
            CHECK.due("hold", x.hold(n), -1);
            CHECK.due("drop", x.drop(n), -1);
            CHECK.due("beat", x.beat(n), -1);
            CHECK.due("tryCase", x.tryCase(n), -1);
            CHECK.due("appeal", x.appeal(n), -1);
        }
        CHECK.due("tryCase(2)", x.tryCase(2), -1);
        CHECK.due("appeal(2)", x.appeal(2), -1);
        CHECK.due("nothing to undo", x.undo(), -1);
    }
}
