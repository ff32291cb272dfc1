/** Promises 20 to 29: verdict, spread, longest, agree, agreed, jury, jurors, likely, panel, panelled. */
public final class WouldBeTest {
    private static final Check CHECK = new Check("WouldBeTest");

    public static void main(String[] args) {
        verdict();
        agree();
        jury();
        likely();
        panel();
        none();
        CHECK.close();
    }

    private static void verdict() {
        LidCourt x = Check.told("juror a 10 8 3 seated;juror b 12 9 4 seated;juror c 30 20 5;"
            + "floor f 4 3;floor g 0 0;case p f;case q g;tuned b g 13;one 2;dent 3;");
        due(x, 0, 1, 2, 6);
        due(x, 1, 0, 3, 9);
        x.hold(1);
        due(x, 1, 1, 0, 8);
        x.sit(2);
        due(x, 0, 0, 20, 17);
        x.rise(2);
        x.tryCase(1);
        CHECK.due("FREE", x.trial(1, 1), 1);
        x.drop(1);
        // a has a dent now: 7 against 13, though the CASE was tried already.
        due(x, 1, 0, 6, 9);
        x.hold(0);
        x.hold(1);
        due(x, 0, -1, -1, -1);
        due(x, 2, -1, -1, -1);
        due(x, -1, -1, -1, -1);
        CHECK.due("all stays: trials", x.now(6), 1);
        CHECK.due("all stays: dents", x.now(5), 1);
    }

    private static void due(LidCourt x, int c, int verdict, int spread, int longest) {
        CHECK.due("verdict(" + c + ")", x.verdict(c), verdict);
        CHECK.due("spread(" + c + ")", x.spread(c), spread);
        CHECK.due("longest(" + c + ")", x.longest(c), longest);
    }

    private static void agree() {
        // RINGS on f: 10 20 12 22 11 30; sitting or holding does not count.
        LidCourt x = Check.told("juror a 10 1 0;juror b 20 1 0 seated;juror c 12 1 0;juror d 22 1 0;juror e 11 1 0;"
            + "juror h 30 1 0;floor f 0 0;floor g 0 0;tuned b g 12;tuned d g 10;one 2;case p f;");
        CHECK.due("agreed() ahead of any", x.agreed(), -1);
        x.hold(0);
        CHECK.due("agree(0)", x.agree(0), 3);
        CHECK.due("agreed()", x.agreed(), 1 | 4 | 16);
        CHECK.due("agree(1)", x.agree(1), 5);
        CHECK.due("agreed()", x.agreed(), 31);
        CHECK.due("agree(2)", x.agree(2), -1);
        CHECK.due("agree(-1)", x.agree(-1), -1);
        CHECK.due("agreed() by the latest that was not NONE", x.agreed(), 31);
        // 'one' is 0 and three pairs are alike: of like ones the least as bits.
        LidCourt y = Check.told("juror a 1 1 0;juror b 5 1 0;juror c 5 1 0;juror d 1 1 0;juror e 9 1 0;juror h 9 1 0;floor f 0 0;one 0;");
        CHECK.due("agree(0)", y.agree(0), 2);
        CHECK.due("agreed()", y.agreed(), 6);
        LidCourt dents = Check.told("juror a 10 1 0 seated;juror b 7 1 0;juror c 15 1 0;floor f 0 0;case p f;one 0;dent 3;");
        CHECK.due("agree(0)", dents.agree(0), 1);
        CHECK.due("agreed()", dents.agreed(), 1);
        dents.tryCase(0);
        CHECK.due("agree(0) by dents as they are now", dents.agree(0), 2);
        CHECK.due("agreed()", dents.agreed(), 3);
        Check.court(dents, "floor f 0 0;");
        CHECK.due("no JURORS", dents.agree(0), -1);
        CHECK.due("agreed() stays", dents.agreed(), 3);
    }

    private static void jury() {
        // 10 20 12 22 11 on f
        LidCourt x = Check.told("juror a 10 1 0;juror b 20 1 0;juror c 12 1 0;juror d 22 1 0;juror e 11 1 0;"
            + "floor z 0 0;floor f 0 0;case p f;");
        CHECK.due("jurors() ahead of any", x.jurors(), -1);
        int[] apart = {0, 1, 2, 10, 12};
        int[] who = {1, 1 | 16, 1 | 4 | 16, 1 | 2 | 4 | 16, 31};
        for (int n = 1; n <= 5; n++) {
            CHECK.due("jury(0, " + n + ")", x.jury(0, n), apart[n - 1]);
            CHECK.due("jurors()", x.jurors(), who[n - 1]);
        }
        CHECK.due("jury(0, 6)", x.jury(0, 6), -1);
        CHECK.due("jury(0, 0)", x.jury(0, 0), -1);
        CHECK.due("jury(0, -1)", x.jury(0, -1), -1);
        CHECK.due("jury(0, 11)", x.jury(0, 11), -1);
        CHECK.due("jury(1, 1)", x.jury(1, 1), -1);
        CHECK.due("jury(-1, 1)", x.jury(-1, 1), -1);
        CHECK.due("jurors() by the latest that was not NONE", x.jurors(), 31);
    }

    private static void likely() {
        // a alone: FREE if he lets go: 9 of 12.
        LidCourt x = Check.told("juror a 10 1 3 seated;juror b 20 1 6;juror c 11 1 0;floor f 0 0;case p f;one 2;");
        dueLikely(x, 3, 4);
        x.hold(0);
        dueLikely(x, 3, 4);
        // a and b are never one ring: FREE if just one lets go: 9/12 * 6/12 and 3/12 * 6/12.
        x.sit(1);
        dueLikely(x, 1, 2);
        // c always lets go and is one ring with a: FREE if b holds.
        x.sit(2);
        dueLikely(x, 1, 2);
        x.rise(0);
        x.rise(1);
        dueLikely(x, 1, 1);
        x.rise(2);
        dueLikely(x, 0, 1);
        LidCourt never = Check.told("juror a 10 1 12 seated;juror b 20 1 12 seated;floor f 0 0;case p f;");
        dueLikely(never, 0, 1);
        // Ten who are all one ring, each of whom holds 1 of 12: all but 1 of 12 to the tenth.
        StringBuilder text = new StringBuilder("floor f 0 0;case p f;");
        for (char name = 'g'; name < 'q'; name++) {
            text.append("juror z").append(name).append(" 5 5 1 seated;");
        }
        dueLikely(Check.told(text.toString()), 61917364223L, 61917364224L);
    }

    private static void dueLikely(LidCourt x, long above, long below) {
        CHECK.due("likely(0, 0)", x.likely(0, 0), above);
        CHECK.due("likely(0, 1)", x.likely(0, 1), below);
    }

    private static void panel() {
        // p on f: 10 11 20 21
        LidCourt x = Check.told("juror a 10 1 6;juror b 11 1 4;juror c 20 1 4 seated;juror d 21 1 6;floor f 0 0;case p f;one 1;");
        CHECK.due("panelled() ahead of any", x.panelled(), -1);
        duePanel(x, 1, 2, 3, 2);
        // a, b: 1 - 6/12 * 4/12; so are c, d; b, c: just one: 2 * 8/12 * 4/12.
        duePanel(x, 2, 5, 6, 3);
        // a, b, c: c holds: 5/6 * 1/3; c lets go and neither a nor b: 2/3 * 1/6; a, b, d: 1/2 * 5/6 and 1/2 * 1/6.
        duePanel(x, 3, 1, 2, 11);
        duePanel(x, 4, 5, 18, 15);
        CHECK.dueNoSuch("panel(0, 5, 0)", () -> x.panel(0, 5, 0));
        CHECK.dueNoSuch("panel(0, 0, 0)", () -> x.panel(0, 0, 0));
        CHECK.dueNoSuch("panel(0, 11, 0)", () -> x.panel(0, 11, 0));
        CHECK.dueNoSuch("panel(1, 1, 0)", () -> x.panel(1, 1, 0));
        CHECK.dueNoSuch("panel(-1, 1, 0)", () -> x.panel(-1, 1, 0));
        CHECK.dueNoSuch("panel(0, 1, 2)", () -> x.panel(0, 1, 2));
        CHECK.dueNoSuch("panel(0, 1, -1)", () -> x.panel(0, 1, -1));
        CHECK.due("a panel() that throws changes nothing", x.panelled(), 15);
        CHECK.dueNoSuch("likely(1, 0)", () -> x.likely(1, 0));
        CHECK.dueNoSuch("likely(-1, 0)", () -> x.likely(-1, 0));
        CHECK.dueNoSuch("likely(0, 2)", () -> x.likely(0, 2));
        CHECK.dueNoSuch("likely(0, -1)", () -> x.likely(0, -1));
        LidCourt never = Check.told("juror a 10 1 12;juror b 11 1 12;floor f 0 0;case p f;");
        CHECK.due("nobody ever lets go", never.panel(0, 1, 0), 0);
        CHECK.due("of like ones the least as bits", never.panelled(), 1);
        CHECK.due("nought in least terms", never.panel(0, 2, 1), 1);
    }

    private static void duePanel(LidCourt x, int n, long above, long below, int who) {
        CHECK.due("panel(0, " + n + ", 0)", x.panel(0, n, 0), above);
        CHECK.due("panelled()", x.panelled(), who);
        CHECK.due("panel(0, " + n + ", 1)", x.panel(0, n, 1), below);
        CHECK.due("panelled()", x.panelled(), who);
    }

    private static void none() {
        LidCourt x = new LidCourt();
        due(x, 0, -1, -1, -1);
        CHECK.due("agree(0)", x.agree(0), -1);
        CHECK.due("jury(0, 1)", x.jury(0, 1), -1);
        CHECK.dueNoSuch("likely(0, 0)", () -> x.likely(0, 0));
        CHECK.dueNoSuch("panel(0, 1, 0)", () -> x.panel(0, 1, 0));
    }
}
