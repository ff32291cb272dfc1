/** Promises 30 to 36: heard, surely, ask, strikes, struck, beats, beating. */
public final class HeardStrikesBeatsTest {
    private static final Check CHECK = new Check("HeardStrikesBeatsTest");

    public static void main(String[] args) {
        heard();
        heardNotAsTold();
        ask();
        strikes();
        strikesByTurns();
        beats();
        beatsNone();
        eachTellsItsOwn();
        CHECK.close();
    }

    private static void heard() {
        // on f 10 12 12 14, d (11) does not sit, b holds: sets are of all who sit
        LidCourt x = Check.told("juror a 10 1 0 seated;juror b 12 1 0 seated;juror c 12 1 0 seated;juror d 11 1 0;"
            + "juror e 14 1 0 seated;floor g 3 0;floor f 0 0;case p f;");
        x.hold(1);
        CHECK.due("surely() ahead of any", x.surely(), -1);
        CHECK.due("ask() ahead of any", x.ask(), -1);
        CHECK.due("heard 10 to 12", Check.heard(x, 1, 10, 12), 3);
        CHECK.due("surely()", x.surely(), 1);
        CHECK.due("ask(): b, of b and c, is in two of three", x.ask(), 1);
        CHECK.due("heard 12 to 12", Check.heard(x, 1, 12, 12), 3);
        CHECK.due("surely()", x.surely(), 0);
        CHECK.due("heard 10 to 14", Check.heard(x, 1, 10, 14), 4);
        CHECK.due("surely()", x.surely(), 1 | 16);
        CHECK.due("ask()", x.ask(), 1);
        CHECK.due("heard 14 to 14", Check.heard(x, 1, 14, 14), 1);
        CHECK.due("surely()", x.surely(), 16);
        CHECK.due("ask(): all are as near, the first", x.ask(), 0);
        CHECK.due("heard 11 to 11", Check.heard(x, 1, 11, 11), 0);
        CHECK.due("surely() by the latest above 0", x.surely(), 16);
        CHECK.due("ask() by the latest above 0", x.ask(), 0);
        CHECK.due("lowest above highest", Check.heard(x, 1, 12, 10), 0);
        CHECK.due("on the other FLOOR", Check.heard(x, 0, 13, 15), 3);
        x.rise(0);
        CHECK.due("surely() as it was then", x.surely(), 1);
        CHECK.due("a byte above 127", Check.heard(x, 1, 12, 200), 0);
        x.drop(1);
        x.tryCase(0);
        CHECK.due("by dents as they are now", Check.heard(x, 1, 11, 11), 3);
        CHECK.due("the tape is empty then", x.count(5), 0);
        CHECK.due("surely()", x.surely(), 0);
        for (int j = 0; j < 5; j++) {
            x.rise(j);
        }
        CHECK.due("nobody sits", Check.heard(x, 1, 11, 11), 0);
    }

    private static void heardNotAsTold() {
        LidCourt x = Check.told("juror a 10 1 0 seated;floor f 0 0;");
        CHECK.due("an empty tape", x.heard(), -1);
        CHECK.due("no such FLOOR", Check.heard(x, 1, 10, 10), -1);
        CHECK.due("FLOOR 255", Check.heard(x, 255, 10, 10), -1);
        CHECK.due("the tape is empty then", x.count(5), 0);
        Check.lay(x, new byte[] {0, 10, 10, 0});
        CHECK.due("four bytes", x.heard(), -1);
        CHECK.due("the tape is empty then", x.count(5), 0);
        Check.lay(x, new byte[] {0, 10});
        CHECK.due("two bytes", x.heard(), -1);
        Check.court(x, "x");
        CHECK.due("three bytes", Check.heard(x, 0, 10, 10), 1);
        CHECK.due("heard() leaves fault()", x.fault(), 1);
    }

    private static void ask() {
        // who sits: b 10, c 10, d 10, e 12: 10 to 10 is heard by 7 sets, each of b, c, d in 4, e in none
        LidCourt x = Check.told("juror a 10 1 0;juror e 12 1 0 seated;juror b 10 1 0 seated;juror c 10 1 0 seated;juror d 10 1 0 seated;floor f 0 0;");
        CHECK.due("heard", Check.heard(x, 0, 10, 10), 7);
        CHECK.due("ask() the first of who sits and is in half", x.ask(), 2);
        CHECK.due("heard", Check.heard(x, 0, 10, 12), 7);
        CHECK.due("surely()", x.surely(), 2);
        CHECK.due("ask()", x.ask(), 2);
        // one set alone: e sits and is as near as the others, a does not sit
        x.rise(2);
        x.rise(3);
        CHECK.due("heard", Check.heard(x, 0, 10, 10), 1);
        CHECK.due("ask()", x.ask(), 1);
        // b and c are in two of three, e, who sits ahead of them, in none
        x.rise(4);
        x.sit(2);
        x.sit(3);
        CHECK.due("heard", Check.heard(x, 0, 10, 10), 3);
        CHECK.due("ask()", x.ask(), 2);
        x.rise(2);
        x.rise(3);
        x.sit(4);
        CHECK.due("heard", Check.heard(x, 0, 10, 10), 1);
        Check.court(x, "");
        CHECK.due("ask() as it was then", x.ask(), 1);
    }

    private static void strikes() {
        LidCourt x = Check.told("juror a 10 1 0 seated;juror b 30 1 0 seated;juror c 12 1 0 seated;juror d 50 1 0;floor f 0 0;case p f;one 2;");
        CHECK.due("struck() ahead of any", x.struck(), -1);
        x.hold(0);
        CHECK.due("strikes(0, 2): all who sit, who hold too", x.strikes(0, 2), 1);
        CHECK.due("struck()", x.struck(), 1);
        CHECK.due("strikes(0, 1)", x.strikes(0, 1), 1);
        CHECK.due("struck()", x.struck(), 0);
        CHECK.due("strikes(0, 3)", x.strikes(0, 3), -1);
        x.sit(3);
        // 10 30 12 50: two are struck, the other side leaves no pair of 10 and 12
        CHECK.due("strikes(0, 2)", x.strikes(0, 2), 0);
        CHECK.due("struck() the least of all", x.struck(), 0);
        CHECK.due("strikes(0, 3)", x.strikes(0, 3), 0);
        x.rise(0);
        CHECK.due("strikes(0, 2)", x.strikes(0, 2), 0);
        CHECK.due("struck() the least of who sits", x.struck(), 1);
        CHECK.due("strikes(0, 0)", x.strikes(0, 0), -1);
        CHECK.due("strikes(0, 11)", x.strikes(0, 11), -1);
        CHECK.due("strikes(0, -1)", x.strikes(0, -1), -1);
        CHECK.due("strikes(1, 1)", x.strikes(1, 1), -1);
        CHECK.due("strikes(-1, 1)", x.strikes(-1, 1), -1);
        CHECK.due("struck() by the latest that was not NONE", x.struck(), 1);
        CHECK.due("nobody has risen by it", x.now(1), 14);
    }

    private static void strikesByTurns() {
        // 10 11 12 30 31, 'one' 2, to 2: the first strikes last: three are left, two of which are one ring.
        LidCourt x = Check.told("juror a 30 1 0 seated;juror b 10 1 0 seated;juror c 11 1 0 seated;juror d 31 1 0 seated;juror e 12 1 0 seated;floor f 0 0;case p f;one 2;");
        CHECK.due("strikes(0, 2)", x.strikes(0, 2), 1);
        CHECK.due("struck()", x.struck(), 0);
        // to 3: the first, then the other: 10 11 12 31 or 10 11 12 30: the other strikes a low one.
        CHECK.due("strikes(0, 3)", x.strikes(0, 3), 0);
        CHECK.due("struck()", x.struck(), 0);
        CHECK.due("strikes(0, 4)", x.strikes(0, 4), 0);
        x.rise(0);
        CHECK.due("strikes(0, 3)", x.strikes(0, 3), 1);
        CHECK.due("struck()", x.struck(), 3);
        // by dents as they are now
        LidCourt y = Check.told("juror a 10 1 0 seated;juror b 13 1 0;juror c 40 1 0 seated;floor f 0 0;case p f;one 2;dent 9;");
        y.sit(1);
        y.rise(0);
        y.rise(2);
        y.tryCase(0);
        y.sit(0);
        y.sit(2);
        CHECK.due("ring(1, 0)", y.ring(1, 0), 4);
        CHECK.due("strikes(0, 2)", y.strikes(0, 2), 0);
        y.beat(1);
        CHECK.due("strikes(0, 2)", y.strikes(0, 2), 0);
        CHECK.due("13 and 10 are three apart", y.spread(0), 30);
    }

    private static void beats() {
        // a, b, c at 10; a and c are tried once, b twice: 10 - 4, 10 - 8, 10 - 4
        LidCourt x = Check.told("juror a 10 1 0 seated;juror b 10 1 0 seated;juror c 10 1 0 seated;juror d 10 1 0 seated;floor f 0 0;case p f;case q f;one 3;dent 4;");
        CHECK.due("beating() ahead of any", x.beating(), -1);
        CHECK.due("beats(0)", x.beats(0), 0);
        CHECK.due("beating()", x.beating(), 0);
        x.hold(3);
        x.tryCase(0);
        x.days(1);
        x.hold(0);
        x.hold(2);
        x.hold(3);
        x.tryCase(1);
        x.days(1);
        // RINGS are 6 2 6 10: all three must be beaten out, unless d holds
        CHECK.due("beats(0)", x.beats(0), 3);
        CHECK.due("beating()", x.beating(), 7);
        x.hold(3);
        // 6 2 6: b to 10 is no good; a, c to 10 are none; b with a and c is
        CHECK.due("beats(0)", x.beats(0), 3);
        x.hold(2);
        // 6 2: b to 10 makes 6 and 10; both
        CHECK.due("beats(0)", x.beats(0), 2);
        CHECK.due("beating()", x.beating(), 3);
        x.hold(0);
        CHECK.due("b alone", x.beats(0), 0);
        CHECK.due("beating()", x.beating(), 0);
        CHECK.due("dents stay", x.now(5), 4);
        // Like ones: a and b ring 10 and have two dents of 1, c 10 has none: 'one' is 1: both must.
        LidCourt y = Check.told("juror a 10 1 0 seated;juror b 12 1 0 seated;juror c 11 1 0 seated;floor f 0 0;case p f;one 2;dent 2;");
        y.hold(2);
        y.tryCase(0);
        y.days(1);
        // 8 10 11: a out: 10 10 11; b out: 8 12 11: a alone
        CHECK.due("beats(0)", y.beats(0), 1);
        CHECK.due("beating()", y.beating(), 1);
        // Two ways of one each: 10 - 3 and 13 - 3: 7 and 10, beating a: 10 and 10; b: 7 and 13.
        LidCourt z = Check.told("juror a 10 1 0 seated;juror b 10 1 0 seated;floor f 0 0;floor g 0 0;case p f;case q g;tuned a g 9;tuned b g 9;one 0;dent 3;");
        z.hold(1);
        z.tryCase(0);
        z.days(1);
        CHECK.due("beats(1)", z.beats(1), 1);
        CHECK.due("beating()", z.beating(), 1);
    }

    private static void beatsNone() {
        LidCourt x = Check.told("juror a 10 1 0 seated;juror b 20 1 0 seated;floor f 0 0;case p f;");
        CHECK.due("by none", x.beats(0), -1);
        CHECK.due("beats(1)", x.beats(1), -1);
        CHECK.due("beats(-1)", x.beats(-1), -1);
        CHECK.due("beating() ahead of any", x.beating(), -1);
        x.hold(0);
        CHECK.due("beats(0)", x.beats(0), 0);
        x.hold(1);
        CHECK.due("nobody would drop", x.beats(0), -1);
        CHECK.due("beating() by the latest that was not NONE", x.beating(), 0);
        // Of like ones the least as bits: any two of three lids with a dent of 3, 'one' 0, one lid holds none.
        LidCourt y = Check.told("juror a 10 1 0 seated;juror b 7 1 0 seated;juror c 10 1 0 seated;juror d 10 1 0 seated;floor f 0 0;case p f;case q f;one 0;dent 3;");
        y.hold(1);
        y.hold(3);
        y.tryCase(0);
        y.days(1);
        y.rise(1);
        y.tryCase(1);
        y.days(1);
        y.rise(3);
        // a and c have two dents: 4 4 are one ring; with d of one dent (7): all three or, d risen, none
        CHECK.due("beats(0)", y.beats(0), 0);
        y.sit(3);
        CHECK.due("beats(0)", y.beats(0), 3);
        CHECK.due("beating()", y.beating(), 13);
    }

    /** What one call told last is not what another one did. */
    private static void eachTellsItsOwn() {
        for (int turn = 0; turn < 2; turn++) {
            LidCourt x = Check.told("juror a 40 1 12;juror b 9 1 9 seated;juror c 30 1 12;juror d 10 1 0 seated;juror e 12 1 12 seated;"
                + "juror g 40 1 0;floor f 0 0;case p f;one 1;");
            for (int i = 0; i < 6; i++) {
                tell(x, turn == 0 ? i : 5 - i);
            }
            CHECK.due("agreed()", x.agreed(), 2 | 8);
            CHECK.due("jurors()", x.jurors(), 1 | 32);
            CHECK.due("panelled()", x.panelled(), 8);
            CHECK.due("surely()", x.surely(), 16);
            CHECK.due("ask()", x.ask(), 1);
            CHECK.due("struck()", x.struck(), 4);
            CHECK.due("beating()", x.beating(), 0);
        }
    }

    private static void tell(LidCourt x, int what) {
        switch (what) {
            case 0:
                x.agree(0);
                break;
            case 1:
                x.jury(0, 2);
                break;
            case 2:
                x.panel(0, 1, 0);
                break;
            case 3:
                Check.heard(x, 0, 12, 12);
                break;
            case 4:
                x.strikes(0, 2);
                break;
            default:
                x.hold(1);
                x.hold(3);
                x.beats(0);
                break;
        }
    }
}
