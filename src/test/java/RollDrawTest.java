/** Promises 37 to 40: roll, byteAt, drawn, odds. */
public final class RollDrawTest {
    private static final Check CHECK = new Check("RollDrawTest");

    public static void main(String[] args) {
        roll();
        tenDrop();
        drawnByHand();
        drawnWithoutCases();
        drawnToTheEnd();
        odds();
        none();
        CHECK.close();
    }

    private static void roll() {
        LidCourt x = Check.told("juror a 10 1 0 seated;juror b 20 1 0 seated;floor f 0 0;case abcdefg f;case z f;");
        CHECK.due("byteAt(0) ahead of any", x.byteAt(0), -1);
        CHECK.dueText("roll(0)", Check.roll(x, 0), "abcdefg is open");
        x.tryCase(0);
        CHECK.dueText("roll(0)", Check.roll(x, 0), "abcdefg is guilty by 2");
        x.days(1);
        x.hold(1);
        x.tryCase(1);
        CHECK.due("roll(1)", x.roll(1), 14);
        CHECK.dueText("roll(1)", Check.roll(x, 1), "z is free by 1");
        x.rise(0);
        CHECK.dueText("roll(1) when it was tried last", Check.roll(x, 1), "z is free by 1");
        x.appeal(1);
        CHECK.due("byteAt(13) of the latest ROLL", x.byteAt(13), '1');
        CHECK.due("byteAt(14)", x.byteAt(14), -1);
        CHECK.due("byteAt(-1)", x.byteAt(-1), -1);
        CHECK.due("roll(2)", x.roll(2), -1);
        CHECK.due("roll(-1)", x.roll(-1), -1);
        CHECK.due("byteAt(0) of the latest ROLL", x.byteAt(0), 'z');
        Check.court(x, "");
        CHECK.due("byteAt(5) stays", x.byteAt(5), 'f');
        LidCourt y = Check.told("juror a 10 1 0 seated;juror b 20 1 0 seated;floor f 0 0;case z f;");
        y.hold(0);
        y.tryCase(0);
        y.appeal(0);
        CHECK.dueText("roll(0) when appealed", Check.roll(y, 0), "z is open");
    }

    private static void tenDrop() {
        StringBuilder text = new StringBuilder("floor f 0 0;case p f;");
        for (char name = 'g'; name < 'q'; name++) {
            text.append("juror z").append(name).append(" 5 5 1 seated;");
        }
        LidCourt x = Check.told(text.toString());
        x.tryCase(0);
        CHECK.dueText("roll(0)", Check.roll(x, 0), "p is free by 10");
    }

    /** The draws once more, by their own words. */
    private static int x;

    private static int draw(int n) {
        x = x * 1103515245 + 12345;
        return (x >>> 8) % n;
    }

    private static final int[] HANDS = {6, 3, 9};
    private static final int[] PITCH = {10, 12, 30};

    /** Draws one DAY by hand; three JURORS, of whom the first two sit, and three CASES. */
    private static void drawDay(int[] dents, int[] how) {
        boolean[] holds = new boolean[3];
        for (int j = 0; j < 3; j++) {
            holds[j] = draw(12) < HANDS[j];
        }
        int c = draw(3);
        if (how[c] == 0 && (!holds[0] || !holds[1])) {
            int apart = Math.abs(PITCH[0] - dents[0] - PITCH[1] + dents[1]);
            how[c] = holds[0] || holds[1] || apart <= 2 ? 1 : 2;
            for (int j = 0; j < 2; j++) {
                dents[j] += holds[j] ? 0 : 1;
            }
        }
        if (draw(6) == 0) {
            dents[draw(3)] = 0;
        }
    }

    private static void drawnByHand() {
        String text = "juror a 10 1 6 seated;juror b 12 1 3 seated;juror c 30 1 9;floor f 0 0;case p f;case q f;case r f;one 2;";
        for (int seed = -40; seed < 40; seed++) {
            LidCourt court = Check.told(text);
            int[] dents = new int[3];
            int[] how = new int[3];
            x = seed * 1000003;
            int many = 1 + (seed + 40) % 12;
            CHECK.due("drawn(" + many + ", " + x + ")", court.drawn(many, x), many);
            for (int day = 0; day < many; day++) {
                drawDay(dents, how);
            }
            for (int i = 0; i < 3; i++) {
                CHECK.due("dents of " + i, court.juror(i, 5), dents[i]);
                CHECK.due("CASE " + i, court.trial(i, 1), how[i]);
            }
            CHECK.due("DAY", court.now(0), many);
            CHECK.due("nobody holds", court.now(2), 0);
            CHECK.due("undo()", court.undo(), 0);
            CHECK.due("DAY", court.now(0), 0);
            CHECK.due("trials", court.now(6), 0);
        }
        LidCourt court = Check.told(text);
        CHECK.due("drawn(60, 1)", court.drawn(60, 1), 60);
    }

    private static void drawnWithoutCases() {
        // Without CASES there is no draw of them: dents can't come, so that only DAYS and holding change.
        LidCourt court = Check.told("juror a 10 1 12 seated;");
        court.hold(0);
        CHECK.due("drawn(1, 0)", court.drawn(1, 0), 1);
        CHECK.due("DAY", court.now(0), 1);
        CHECK.due("nobody holds", court.now(2), 0);
        // 12 HANDS: always holds, so that nothing is ever tried; none: always lets go.
        LidCourt never = Check.told("juror a 10 1 12 seated;floor f 0 0;case p f;");
        never.drawn(60, 9);
        CHECK.due("never tried", never.now(6), 0);
        LidCourt always = Check.told("juror a 10 1 0 seated;floor f 0 0;case p f;");
        always.hold(0);
        always.drawn(1, 9);
        CHECK.due("tried on DAY 0, though he held ahead of it", always.trial(0, 2), 0);
        // One JUROR alone: a draw of 6 that is 0 beats out the dent of the same DAY.
        for (int seed = 0; seed < 60; seed++) {
            LidCourt alone = Check.told("juror a 10 1 0 seated;floor f 0 0;case p f;");
            x = seed;
            draw(12);
            draw(1);
            int dents = draw(6) == 0 ? 0 : 1;
            alone.drawn(1, seed);
            CHECK.due("dents by seed " + seed, alone.juror(0, 5), dents);
        }
        LidCourt today = Check.told("juror a 10 1 0 seated;floor f 0 0;case p f;case q f;");
        today.tryCase(0);
        today.drawn(1, 9);
        CHECK.due("one trial a DAY", today.now(6), 1);
    }

    private static final String RARE = "juror a 10 1 11 seated;floor f 0 0;case p f;";
    private static final String TO_DAY_390 = "day 60;".repeat(6) + "day 30;";

    private static void drawnToTheEnd() {
        LidCourt court = Check.told(RARE);
        Check.book(court, 1, TO_DAY_390);
        CHECK.due("drawn(60, 1) with ten left", court.drawn(60, 1), 10);
        CHECK.due("DAY", court.now(0), 400);
        court.hold(0);
        CHECK.due("drawn(1, 1) with none left", court.drawn(1, 1), 0);
        CHECK.due("he holds still", court.now(2), 1);
        CHECK.due("nothing more to undo", court.undo(), 2);
        for (int seed = 0; seed < 40; seed++) {
            LidCourt one = Check.told(RARE);
            Check.book(one, 1, TO_DAY_390);
            int free = one.odds(0, 1, seed);
            one.drawn(10, seed);
            CHECK.due("odds(0, 1, " + seed + ") with ten DAYS left", free, one.trial(0, 1));
            CHECK.due("odds(0, 1, " + seed + ") with none left", one.odds(0, 1, 99 - seed), one.trial(0, 1));
        }
    }

    private static void odds() {
        LidCourt court = Check.told("juror a 10 1 6 seated;juror b 13 1 6 seated;floor f 0 0;case p f;case q f;one 2;");
        court.tryCase(1);
        court.days(3);
        for (int seed : new int[] {0, 5, Integer.MAX_VALUE - 3, Integer.MIN_VALUE}) {
            int free = 0;
            for (int i = 0; i < 30; i++) {
                LidCourt one = Check.told("juror a 10 1 6 seated;juror b 13 1 6 seated;floor f 0 0;case p f;case q f;one 2;");
                one.tryCase(1);
                one.days(3);
                one.drawn(20, seed + i);
                free += one.trial(0, 1) == 1 ? 1 : 0;
                CHECK.due("odds(0, " + (i + 1) + ", " + seed + ")", court.odds(0, i + 1, seed), free);
            }
        }
        LidCourt rare = Check.told(RARE);
        for (int seed = 0; seed < 40; seed++) {
            LidCourt one = Check.told(RARE);
            one.drawn(20, seed);
            CHECK.due("odds(0, 1, " + seed + ")", rare.odds(0, 1, seed), one.trial(0, 1));
        }
        CHECK.due("all stays: DAY", court.now(0), 3);
        CHECK.due("all stays: trials", court.now(6), 1);
        CHECK.due("it was days() that is undone", court.undo(), 1);
        CHECK.due("DAY", court.now(0), 0);
        CHECK.due("odds(1, 7, 1) of one that is GUILTY", court.odds(1, 7, 1), 0);
    }

    private static void none() {
        LidCourt court = Check.told("juror a 10 1 6 seated;floor f 0 0;case p f;");
        CHECK.due("drawn(0, 1)", court.drawn(0, 1), -1);
        CHECK.due("drawn(61, 1)", court.drawn(61, 1), -1);
        CHECK.due("drawn(-1, 1)", court.drawn(-1, 1), -1);
        CHECK.due("odds(0, 0, 1)", court.odds(0, 0, 1), -1);
        CHECK.due("odds(0, 31, 1)", court.odds(0, 31, 1), -1);
        CHECK.due("odds(1, 1, 1)", court.odds(1, 1, 1), -1);
        CHECK.due("odds(-1, 1, 1)", court.odds(-1, 1, 1), -1);
        LidCourt nobody = Check.told("floor f 0 0;case p f;");
        CHECK.due("drawn without JURORS", nobody.drawn(1, 1), -1);
        CHECK.due("odds without JURORS", nobody.odds(0, 1, 1), -1);
        CHECK.due("DAY", nobody.now(0), 0);
    }
}
