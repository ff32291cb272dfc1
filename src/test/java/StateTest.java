/** Promises 6 to 10: juror, trial, ring, lasts, now. */
public final class StateTest {
    private static final Check CHECK = new Check("StateTest");
    private static final String COURT = "juror ana 10 8 3 seated;juror bo 12 9 4 seated;juror cy 30 2 5;"
        + "floor hall 4 3;floor yard 0 0;case pan hall;case pot yard;tuned cy yard 7;one 2;dent 4;";

    public static void main(String[] args) {
        juror();
        trial();
        ring();
        now();
        CHECK.close();
    }

    private static void juror() {
        LidCourt x = Check.told(COURT);
        int[][] want = {{10, 8, 3, 1, 0, 0, 0}, {12, 9, 4, 1, 0, 0, 0}, {30, 2, 5, 0, 0, 0, 0}};
        for (int j = 0; j < 3; j++) {
            for (int what = 0; what < 7; what++) {
                CHECK.due("juror(" + j + ", " + what + ")", x.juror(j, what), want[j][what]);
            }
        }
        x.hold(1);
        x.tryCase(0);
        CHECK.due("ana's dents", x.juror(0, 5), 1);
        CHECK.due("ana dropped", x.juror(0, 6), 1);
        CHECK.due("bo holds", x.juror(1, 4), 1);
        CHECK.due("bo's dents", x.juror(1, 5), 0);
        CHECK.due("bo dropped", x.juror(1, 6), 0);
        x.days(1);
        x.tryCase(1);
        CHECK.due("ana dropped twice", x.juror(0, 6), 2);
        x.beat(0);
        CHECK.due("ana's dents beaten out", x.juror(0, 5), 0);
        CHECK.due("ana dropped twice still", x.juror(0, 6), 2);
        x.hold(0);
        x.drop(0);
        CHECK.due("to be told to drop is no drop", x.juror(0, 6), 2);
        CHECK.dueNoSuch("juror(3, 0)", () -> x.juror(3, 0));
        CHECK.dueNoSuch("juror(-1, 0)", () -> x.juror(-1, 0));
        CHECK.dueNoSuch("juror(0, 7)", () -> x.juror(0, 7));
        CHECK.dueNoSuch("juror(0, -1)", () -> x.juror(0, -1));
        CHECK.dueNoSuch("juror of a new object", () -> new LidCourt().juror(0, 0));
    }

    private static void trial() {
        LidCourt x = Check.told(COURT);
        x.hold(1);
        x.hold(2);
        x.days(5);
        int[] fresh = {1, 0, -1, 0, 0};
        for (int what = 0; what < 5; what++) {
            CHECK.due("trial(1, " + what + ")", x.trial(1, what), fresh[what]);
        }
        x.hold(1);
        x.hold(2);
        x.tryCase(1);
        // cy holds, but does not sit: he is not one of those who HELD ON.
        int[] tried = {1, 1, 5, 1, 2};
        for (int what = 0; what < 5; what++) {
            CHECK.due("trial(1, " + what + ") when tried", x.trial(1, what), tried[what]);
        }
        x.appeal(1);
        int[] again = {1, 0, 5, 1, 2};
        for (int what = 0; what < 5; what++) {
            CHECK.due("trial(1, " + what + ") when appealed", x.trial(1, what), again[what]);
        }
        CHECK.dueNoSuch("trial(2, 0)", () -> x.trial(2, 0));
        CHECK.dueNoSuch("trial(-1, 0)", () -> x.trial(-1, 0));
        CHECK.dueNoSuch("trial(0, 5)", () -> x.trial(0, 5));
        CHECK.dueNoSuch("trial(0, -1)", () -> x.trial(0, -1));
        CHECK.due("all stays", x.now(6), 1);
    }

    private static void ring() {
        LidCourt x = Check.told(COURT);
        CHECK.due("ring(0, 0)", x.ring(0, 0), 14);
        CHECK.due("ring(0, 1)", x.ring(0, 1), 10);
        CHECK.due("ring(2, 0)", x.ring(2, 0), 34);
        CHECK.due("ring(2, 1) as tuned", x.ring(2, 1), 7);
        CHECK.due("lasts(0, 0)", x.lasts(0, 0), 5);
        CHECK.due("lasts(2, 0) is 1 at least", x.lasts(2, 0), 1);
        CHECK.due("lasts(2, 1)", x.lasts(2, 1), 2);
        x.sit(2);
        x.tryCase(0);
        CHECK.due("ring(0, 0) with a dent", x.ring(0, 0), 10);
        CHECK.due("ring(2, 1) with a dent", x.ring(2, 1), 3);
        x.days(1);
        x.tryCase(1);
        CHECK.due("ring(2, 1) is 0 at least", x.ring(2, 1), 0);
        CHECK.due("ring(2, 0) with two dents", x.ring(2, 0), 26);
        CHECK.due("lasts(0, 0) has no dents", x.lasts(0, 0), 5);
        int[][] none = {{-1, 0}, {3, 0}, {0, -1}, {0, 2}, {Integer.MAX_VALUE, Integer.MIN_VALUE}};
        for (int[] n : none) {
            CHECK.due("ring(" + n[0] + ", " + n[1] + ")", x.ring(n[0], n[1]), -1);
            CHECK.due("lasts(" + n[0] + ", " + n[1] + ")", x.lasts(n[0], n[1]), -1);
        }
        LidCourt tunedToNought = Check.told("juror a 9 9 0;floor f 20 20;tuned a f 0;");
        CHECK.due("tuned to 0 is tuned", tunedToNought.ring(0, 0), 0);
        CHECK.due("20 of dullness", tunedToNought.lasts(0, 0), 1);
    }

    private static void now() {
        LidCourt x = Check.told(COURT);
        due(x, 0, 3, 0, 0, 0, 0, 0, 0);
        x.hold(2);
        x.tryCase(0);
        due(x, 0, 3, 4, 1, 0, 2, 1, 1);
        x.days(2);
        due(x, 2, 3, 0, 1, 0, 2, 1, 0);
        x.sit(2);
        x.hold(0);
        x.tryCase(1);
        due(x, 2, 7, 1, 3, 0, 4, 2, 1);
        x.appeal(1);
        due(x, 2, 7, 1, 1, 0, 4, 2, 1);
        CHECK.due("bo 12 - 8 and cy 7 - 4 are one ring by 2", x.verdict(1), 1);
        x.days(1);
        x.tryCase(1);
        due(x, 3, 7, 0, 1, 2, 7, 3, 1);
        CHECK.due("now(8)", x.now(8), -1);
        CHECK.due("now(-1)", x.now(-1), -1);
    }

    private static void due(LidCourt x, int... want) {
        for (int what = 0; what < want.length; what++) {
            CHECK.due("now(" + what + ") on DAY " + x.now(0), x.now(what), want[what]);
        }
    }
}
