/** What the document tells of the edges of what would be (promises 20 to 36), sentence by sentence. */
public final class EdgesOfAnswersTest {
    private static final Edges EDGES = new Edges("EdgesOfAnswersTest");
    private static final Check CHECK = EDGES.check;
    private static final int NONE = LidCourt.NONE;
    private static final String COURT = "juror a 10 5 0 seated;juror b 12 6 3 seated;juror c 30 7 12;"
        + "floor f 4 5;floor g 0 0;case p f;case q g;one 2;dent 3;";
    private static final int[] FAR = {-1, -2, 2, 3, 5, 32, 1000, Integer.MIN_VALUE, Integer.MAX_VALUE};

    public static void main(String[] args) {
        verdict();
        agree();
        jury();
        likely();
        panel();
        heard();
        ask();
        strikes();
        beats();
        eachByItsOwn();
        EDGES.close(20, 36);
    }

    /** JURORS of these PITCHES who sit, with 0 HANDS, on FLOOR f with CASE p. */
    private static LidCourt sitting(int one, int... pitches) {
        StringBuilder text = new StringBuilder("floor f 0 0;case p f;one " + one + ";dent 1;");
        for (int j = 0; j < pitches.length; j++) {
            text.append("juror j").append((char) ('a' + j)).append(' ').append(pitches[j]).append(" 1 0 seated;");
        }
        return Check.told(text.toString());
    }

    private static void dueVerdict(LidCourt x, int c, int verdict, int spread, int longest) {
        CHECK.due("verdict(" + c + ")", x.verdict(c), verdict);
        CHECK.due("spread(" + c + ")", x.spread(c), spread);
        CHECK.due("longest(" + c + ")", x.longest(c), longest);
    }

    private static void verdict() {
        EDGES.terms("VERDICT of a CASE: as if it was tried now (tried or not).", () -> {
            LidCourt x = Check.told(COURT);
            dueVerdict(x, 0, 1, 2, 1);
            x.hold(0);
            x.tryCase(0);
            CHECK.due("FREE", x.trial(0, 1), 1);
            x.sit(2);
            dueVerdict(x, 0, 0, 34 - 13, 2);
            x.days(1);
            dueVerdict(x, 0, 0, 34 - 13, 2);
            x.rise(2);
            // b has a dent: 10 and 12 less 3
            dueVerdict(x, 1, 1, 1, 6);
            CHECK.due("FREE still", x.trial(0, 1), 1);
            CHECK.due("tried once", x.now(6), 1);
        });
        EDGES.terms("All by dents as they are now.", () -> {
            LidCourt x = sitting(2, 20, 22, 50);
            x.rise(2);
            x.hold(1);
            x.tryCase(0);
            x.days(1);
            CHECK.due("19 and 22", x.verdict(0), 0);
            CHECK.due("agree", x.agree(0), 1);
            CHECK.due("jury", x.jury(0, 2), 3);
            CHECK.due("likely", x.likely(0, 0), 0);
            CHECK.due("panel", x.panel(0, 2, 0), 0);
            CHECK.due("heard", Check.heard(x, 0, 19, 22), 1);
            x.sit(2);
            CHECK.due("strikes", x.strikes(0, 2), 0);
            x.rise(2);
            CHECK.due("beats", x.beats(0), 1);
            x.beat(0);
            CHECK.due("20 and 22", x.verdict(0), 1);
            CHECK.due("agree", x.agree(0), 2);
            CHECK.due("jury", x.jury(0, 2), 2);
            CHECK.due("likely", x.likely(0, 0), 1);
            CHECK.due("panel", x.panel(0, 2, 0), 1);
            CHECK.due("heard", Check.heard(x, 0, 20, 22), 1);
            x.sit(2);
            CHECK.due("strikes", x.strikes(0, 2), 1);
            x.rise(2);
            CHECK.due("beats", x.beats(0), 0);
        });
        EDGES.promise(20, "VERDICT of a CASE: 1 FREE, 0 GUILTY; NONE: nobody would drop, no such one.", () -> {
            CHECK.due("apart by 'one'", sitting(4, 10, 14).verdict(0), 1);
            CHECK.due("apart by one more", sitting(4, 10, 15).verdict(0), 0);
            dueNoneOf(0);
        });
        EDGES.promise(21, "How far the highest RING of it is above the lowest one; NONE: likewise.", () -> {
            CHECK.due("one lid", sitting(4, 10).spread(0), 0);
            CHECK.due("like lids", sitting(4, 10, 10).spread(0), 0);
            CHECK.due("the farthest", sitting(4, 60, 30, 1).spread(0), 59);
            LidCourt x = Check.told("juror a 60 1 0 seated;juror b 1 1 0 seated;floor f 20 0;tuned b f 0;case p f;");
            CHECK.due("80 and 0", x.spread(0), 80);
            LidCourt high = Check.told("juror a 60 1 0 seated;juror b 60 1 0 seated;floor f 20 0;case p f;one 0;");
            CHECK.due("80 and 80", high.spread(0), 0);
            CHECK.due("80 and 80 are one ring by 0", high.verdict(0), 1);
            LidCourt low = Check.told("juror a 60 1 0 seated;juror b 60 1 0 seated;floor f 20 0;tuned a f 0;tuned b f 0;case p f;one 0;");
            CHECK.due("0 and 0", low.spread(0), 0);
            CHECK.due("0 and 0 are one ring by 0", low.verdict(0), 1);
            CHECK.due("0 and 0, tried", low.tryCase(0) + low.trial(0, 1), 1);
            CHECK.due("80 and 80, tried", high.tryCase(0) + high.trial(0, 1), 1);
            dueNoneOf(1);
        });
        EDGES.promise(22, "How long the longest RING of it lasts; NONE: likewise.", () -> {
            LidCourt x = Check.told("juror a 60 4 0 seated;juror b 1 20 0 seated;juror c 1 9 0 seated;floor f 0 0;floor g 0 20;case p f;case q g;");
            CHECK.due("longest(0)", x.longest(0), 20);
            CHECK.due("1 at least", x.longest(1), 1);
            x.hold(1);
            CHECK.due("who holds is not of it", x.longest(0), 9);
            x.rise(2);
            CHECK.due("nor who does not sit", x.longest(0), 4);
            dueNoneOf(2);
        });
    }

    private static int verdictSpreadLongest(LidCourt x, int which, int c) {
        return which == 0 ? x.verdict(c) : which == 1 ? x.spread(c) : x.longest(c);
    }

    private static void dueNoneOf(int which) {
        LidCourt x = Check.told(COURT);
        for (int far : FAR) {
            CHECK.due("of CASE " + far, verdictSpreadLongest(x, which, far), NONE);
        }
        x.hold(0);
        x.hold(1);
        CHECK.due("all who sit hold", verdictSpreadLongest(x, which, 0), NONE);
        x.rise(0);
        x.rise(1);
        CHECK.due("nobody sits", verdictSpreadLongest(x, which, 0), NONE);
        x.drop(0);
        CHECK.due("who does not hold does not sit", verdictSpreadLongest(x, which, 0), NONE);
        x.sit(0);
        CHECK.due("one would", verdictSpreadLongest(x, which, 0) != NONE, true);
        CHECK.due("of an empty COURT", verdictSpreadLongest(new LidCourt(), which, 0), NONE);
    }

    private static void agree() {
        EDGES.terms("AGREE on a FLOOR: the most JURORS who are ONE RING together; of like ones the least as bits.", () -> {
            dueAgree(sitting(3, 10), 1, 1);
            dueAgree(sitting(3, 10, 13), 2, 3);
            dueAgree(sitting(3, 10, 14), 1, 1);
            // two pairs: the one with the lower bits, not the lower RINGS
            dueAgree(sitting(0, 30, 30, 10, 10), 2, 3);
            dueAgree(sitting(0, 30, 10, 10, 30), 2, 6);
            // of {0, 1} and {1, 2} the least as bits is 3; of {0, 3} and {1, 2} it is 6
            dueAgree(sitting(1, 10, 11, 12), 2, 3);
            dueAgree(sitting(1, 12, 11, 10), 2, 3);
            dueAgree(sitting(1, 10, 20, 21, 11), 2, 6);
            dueAgree(sitting(20, 1, 21, 41, 60, 40, 22), 4, 54);
            dueAgree(sitting(20, 60, 59, 58, 57, 56, 55, 54, 53, 52, 51), 10, 1023);
            dueAgree(sitting(0, 60, 59, 58, 57, 56, 55, 54, 53, 52, 51), 1, 1);
            LidCourt x = sitting(0, 10, 10);
            x.rise(0);
            x.hold(1);
            dueAgree(x, 2, 3);
        });
        EDGES.promise(23, "AGREE on a FLOOR: how many; NONE: there are no JURORS, no such one.", () -> {
            LidCourt x = Check.told(COURT);
            CHECK.due("agree(0)", x.agree(0), 2);
            CHECK.due("agree(1)", x.agree(1), 2);
            for (int far : FAR) {
                CHECK.due("agree(" + far + ")", x.agree(far), NONE);
            }
            CHECK.due("no JURORS", Check.told("floor f 0 0;").agree(0), NONE);
            CHECK.due("an empty COURT", new LidCourt().agree(0), NONE);
        });
        EDGES.promise(24, "Who, as bits, by the latest agree() that was not NONE; NONE ahead of any.", () -> {
            LidCourt x = Check.told("juror a 10 1 0;juror b 20 1 0;juror c 20 1 0;floor f 0 0;floor g 0 0;tuned c g 10;case p f;");
            CHECK.due("ahead of any", x.agreed(), NONE);
            x.agree(2);
            CHECK.due("NONE leaves it", x.agreed(), NONE);
            x.agree(0);
            CHECK.due("agreed()", x.agreed(), 6);
            x.agree(1);
            CHECK.due("agreed()", x.agreed(), 5);
            x.agree(2);
            CHECK.due("NONE leaves it", x.agreed(), 5);
            x.jury(0, 3);
            CHECK.due("another call leaves it", x.agreed(), 5);
            Check.court(x, "");
            x.agree(0);
            CHECK.due("NONE in another COURT leaves it", x.agreed(), 5);
        });
    }

    private static void dueAgree(LidCourt x, int many, int who) {
        CHECK.due("agree(0)", x.agree(0), many);
        CHECK.due("agreed()", x.agreed(), who);
    }

    private static void jury() {
        EDGES.terms("JURY of n for a CASE: n JURORS the highest and lowest of whom are nearest to one another; of like ones the least as bits.", () -> {
            LidCourt x = sitting(0, 40, 10, 22, 20, 41, 12);
            int[] apart = {0, 1, 10, 12, 29, 31};
            int[] who = {1, 17, 2 | 8 | 32, 2 | 4 | 8 | 32, 1 | 4 | 8 | 16 | 32, 63};
            x.rise(0);
            x.hold(1);
            for (int n = 1; n <= 6; n++) {
                CHECK.due("jury(0, " + n + ")", x.jury(0, n), apart[n - 1]);
                CHECK.due("jurors()", x.jurors(), who[n - 1]);
            }
            LidCourt like = sitting(0, 10, 20, 21, 11);
            CHECK.due("jury(0, 2)", like.jury(0, 2), 1);
            CHECK.due("6 is less than 9", like.jurors(), 6);
        });
        EDGES.promise(25, "JURY of n (1 to 10) for a CASE: how far they are apart; NONE: there are fewer, no such ones.", () -> {
            LidCourt ten = sitting(0, 1, 2, 3, 4, 5, 6, 7, 8, 9, 10);
            CHECK.due("jury(0, 1)", ten.jury(0, 1), 0);
            CHECK.due("jury(0, 10)", ten.jury(0, 10), 9);
            for (int n : new int[] {0, -1, 11, 32, Integer.MIN_VALUE, Integer.MAX_VALUE}) {
                CHECK.due("jury(0, " + n + ")", ten.jury(0, n), NONE);
            }
            LidCourt x = Check.told(COURT);
            CHECK.due("jury(0, 3)", x.jury(0, 3), 20);
            CHECK.due("there are fewer", x.jury(0, 4), NONE);
            for (int far : FAR) {
                CHECK.due("jury(" + far + ", 1)", x.jury(far, 1), NONE);
            }
            CHECK.due("no JURORS", Check.told("floor f 0 0;case p f;").jury(0, 1), NONE);
        });
        EDGES.promise(26, "Who, as bits, by the latest jury() that was not NONE; NONE ahead of any.", () -> {
            LidCourt x = Check.told(COURT);
            CHECK.due("ahead of any", x.jurors(), NONE);
            x.jury(0, 4);
            CHECK.due("NONE leaves it", x.jurors(), NONE);
            x.jury(0, 2);
            CHECK.due("jurors()", x.jurors(), 3);
            x.jury(0, 0);
            x.jury(2, 1);
            x.agree(0);
            x.panel(0, 1, 0);
            CHECK.due("NONE and other calls leave it", x.jurors(), 3);
        });
    }

    private static void dueLikely(String call, LidCourt x, long above, long below) {
        CHECK.due(call + ", above", x.likely(0, 0), above);
        CHECK.due(call + ", below", x.likely(0, 1), below);
    }

    private static void likely() {
        EDGES.terms("LIKELY: how likely a CASE would be FREE, if each who sits holds by HANDS of 12 (whether he holds now or not), each by himself (nobody drops: not FREE).", () -> {
            for (int hands = 0; hands <= 12; hands++) {
                LidCourt x = Check.told("juror a 9 1 " + hands + " seated;floor f 0 0;case p f;");
                int least = hands == 12 ? 12 : common(12 - hands, 12);
                dueLikely("HANDS " + hands, x, (12 - hands) / least, 12 / least);
                x.hold(0);
                dueLikely("HANDS " + hands + ", he holds", x, (12 - hands) / least, 12 / least);
                x.rise(0);
                dueLikely("nobody sits", x, 0, 1);
            }
            // Two who are no one ring: just one of them lets go, by 7 * 7 and 5 * 5 of 144.
            LidCourt two = Check.told("juror a 9 1 5 seated;juror b 20 1 7 seated;floor f 0 0;case p f;");
            dueLikely("two apart", two, 37, 72);
            LidCourt near = Check.told("juror a 9 1 5 seated;juror b 10 1 7 seated;floor f 0 0;case p f;");
            dueLikely("two in one ring", near, 109, 144);
            two.tryCase(0);
            dueLikely("tried or not", two, 37, 72);
        });
        EDGES.terms("All fractions are told by two numbers: 0 above, 1 below, in least terms.", () -> {
            dueLikely("sure", Check.told("juror a 9 1 0 seated;floor f 0 0;case p f;"), 1, 1);
            dueLikely("never", Check.told("juror a 9 1 12 seated;juror b 9 1 12 seated;floor f 0 0;case p f;"), 0, 1);
            StringBuilder text = new StringBuilder("floor f 0 0;case p f;");
            for (int j = 0; j < 10; j++) {
                text.append("juror j").append((char) ('a' + j)).append(" 9 1 11 seated;");
            }
            LidCourt ten = Check.told(text.toString());
            dueLikely("12 to the tenth less 11 to the tenth", ten, 61917364224L - 25937424601L, 61917364224L);
            CHECK.due("panel of ten, above", ten.panel(0, 10, 0), 61917364224L - 25937424601L);
            CHECK.due("panel of ten, below", ten.panel(0, 10, 1), 61917364224L);
        });
        EDGES.promise(27, "LIKELY: how likely a CASE would be FREE.", () -> {
            // RINGS 10 11 13 on f; 13 11 13 on g, where a is tuned: 10 and 13 are not one ring
            LidCourt x = Check.told("juror a 10 1 3 seated;juror b 11 1 6 seated;juror c 13 1 4 seated;floor f 0 0;floor g 0 0;"
                + "case p f;case q g;tuned a g 13;one 2;");
            // FREE: some drop, and not both a and c: 1 less (3 6 4 of 12 each hold) less (9 and 8 of 12 let go)
            CHECK.due("above", x.likely(0, 0), 11);
            CHECK.due("below", x.likely(0, 1), 24);
            CHECK.due("above, of another FLOOR", x.likely(1, 0), 23);
            CHECK.due("below, of another FLOOR", x.likely(1, 1), 24);
            x.rise(2);
            // 1 less 3 and 6 of 12
            CHECK.due("above without c", x.likely(0, 0), 7);
            CHECK.due("below without c", x.likely(0, 1), 8);
        });
        EDGES.promise(27, "NoSuchElementException: no such ones.", () -> {
            LidCourt x = Check.told(COURT);
            for (int far : FAR) {
                CHECK.dueNoSuch("likely(" + far + ", 0)", () -> x.likely(far, 0));
                CHECK.dueNoSuch("likely(0, " + far + ")", () -> x.likely(0, far));
            }
            CHECK.dueNoSuch("of an empty COURT", () -> new LidCourt().likely(0, 0));
            CHECK.due("likely(1, 1)", x.likely(1, 1), 1);
        });
    }

    private static int common(int a, int b) {
        return b == 0 ? a : common(b, a % b);
    }

    private static void panel() {
        EDGES.terms("PANEL of n for a CASE: n JURORS, as if just these sat, so that it is likeliest FREE; of like ones the least as bits.", () -> {
            // RINGS 10 30 11 31, HANDS 6 3 6 0
            LidCourt x = Check.told("juror a 10 1 6;juror b 30 1 3;juror c 11 1 6;juror d 31 1 0;juror e 50 1 12 seated;floor f 0 0;case p f;one 1;");
            duePanel(x, 1, 1, 1, 8);
            // b and d are one ring, of whom d lets go; d and e, who never does, too: 2 and 8 are less than 8 and 16
            duePanel(x, 2, 1, 1, 10);
            duePanel(x, 3, 1, 1, 26);
            LidCourt like = Check.told("juror a 10 1 6;juror b 30 1 6;juror c 11 1 6;floor f 0 0;case p f;one 0;");
            duePanel(like, 1, 1, 2, 1);
            duePanel(like, 2, 1, 2, 3);
            duePanel(like, 3, 3, 8, 7);
            LidCourt never = Check.told("juror a 10 1 12;juror b 30 1 12;floor f 0 0;case p f;");
            duePanel(never, 1, 0, 1, 1);
            duePanel(never, 2, 0, 1, 3);
        });
        EDGES.promise(28, "PANEL of n (1 to 10) for a CASE: how likely. NoSuchElementException: there are fewer, no such ones.", () -> {
            LidCourt ten = sitting(0, 1, 2, 3, 4, 5, 6, 7, 8, 9, 10);
            duePanel(ten, 1, 1, 1, 1);
            duePanel(ten, 10, 0, 1, 1023);
            for (int n : new int[] {0, -1, 11, 32, Integer.MIN_VALUE, Integer.MAX_VALUE}) {
                CHECK.dueNoSuch("panel(0, " + n + ", 0)", () -> ten.panel(0, n, 0));
            }
            LidCourt x = Check.told(COURT);
            duePanel(x, 3, 1, 1, 7);
            CHECK.dueNoSuch("there are fewer", () -> x.panel(0, 4, 0));
            for (int far : FAR) {
                CHECK.dueNoSuch("panel(" + far + ", 1, 0)", () -> x.panel(far, 1, 0));
                CHECK.dueNoSuch("panel(0, 1, " + far + ")", () -> x.panel(0, 1, far));
            }
            CHECK.dueNoSuch("no JURORS", () -> Check.told("floor f 0 0;case p f;").panel(0, 1, 0));
        });
        EDGES.promise(29, "Who, as bits, by the latest panel(); NONE ahead of any.", () -> {
            LidCourt x = Check.told(COURT);
            CHECK.due("ahead of any", x.panelled(), NONE);
            CHECK.dueNoSuch("panel(0, 4, 0)", () -> x.panel(0, 4, 0));
            CHECK.due("ahead of any that does not throw", x.panelled(), NONE);
            x.panel(0, 2, 1);
            CHECK.due("panelled()", x.panelled(), 3);
            CHECK.dueNoSuch("panel(0, 1, 2)", () -> x.panel(0, 1, 2));
            CHECK.dueNoSuch("panel(2, 1, 0)", () -> x.panel(2, 1, 0));
            CHECK.dueNoSuch("panel(0, 0, 0)", () -> x.panel(0, 0, 0));
            x.jury(0, 1);
            x.agree(0);
            x.likely(0, 0);
            CHECK.due("a call that throws changes nothing", x.panelled(), 3);
        });
    }

    private static void duePanel(LidCourt x, int n, long above, long below, int who) {
        CHECK.due("panel(0, " + n + ", 0)", x.panel(0, n, 0), above);
        CHECK.due("panel(0, " + n + ", 1)", x.panel(0, n, 1), below);
        CHECK.due("panelled()", x.panelled(), who);
    }

    private static void heard() {
        EDGES.terms("HEARD by the tape (3 bytes: a FLOOR, the lowest RING, the highest one): sets of those who sit, of one at least, that would ring just so there.", () -> {
            LidCourt x = sitting(0, 10, 12, 14, 12, 16);
            x.rise(4);
            x.hold(1);
            CHECK.due("12 to 12: two, and both", Check.heard(x, 0, 12, 12), 3);
            CHECK.due("10 to 14: with neither, one, both of 12", Check.heard(x, 0, 10, 14), 4);
            CHECK.due("10 to 10", Check.heard(x, 0, 10, 10), 1);
            CHECK.due("10 to 13: just so", Check.heard(x, 0, 10, 13), 0);
            CHECK.due("14 to 16: who does not sit", Check.heard(x, 0, 14, 16), 0);
            CHECK.due("12 to 10", Check.heard(x, 0, 12, 10), 0);
            CHECK.due("0 to 255", Check.heard(x, 0, 0, 255), 0);
            for (int j = 0; j < 4; j++) {
                x.rise(j);
            }
            CHECK.due("nobody sits: no set of one at least", Check.heard(x, 0, 0, 0), 0);
            LidCourt ten = sitting(0, 7, 7, 7, 7, 7, 7, 7, 7, 7, 7);
            CHECK.due("all sets of ten but the empty one", Check.heard(ten, 0, 7, 7), 1023);
            LidCourt edge = Check.told("juror a 60 1 0 seated;juror b 1 1 0 seated;floor f 20 0;floor g 0 0;tuned b f 0;");
            CHECK.due("0 to 80", Check.heard(edge, 0, 0, 80), 1);
            CHECK.due("there: another FLOOR", Check.heard(edge, 1, 1, 60), 1);
        });
        EDGES.promise(30, "HEARD: how many sets; NONE: not as told, no such FLOOR.", () -> {
            LidCourt x = Check.told(COURT);
            for (int bytes = 0; bytes <= 8; bytes++) {
                Check.lay(x, new byte[] {0, 14, 14, 0, 0, 0, 0, 0});
                x.end(bytes);
                CHECK.due("of " + bytes + " bytes", x.heard(), bytes == 3 ? 1 : NONE);
            }
            CHECK.due("FLOOR 1", Check.heard(x, 1, 10, 10), 1);
            CHECK.due("FLOOR 2", Check.heard(x, 2, 10, 10), NONE);
            CHECK.due("FLOOR 128", Check.heard(x, 128, 10, 10), NONE);
            CHECK.due("FLOOR 255", Check.heard(x, 255, 10, 10), NONE);
            CHECK.due("of an empty COURT", Check.heard(new LidCourt(), 0, 0, 0), NONE);
        });
        EDGES.promise(31, "JURORS in each of these sets, as bits, by the latest heard() above 0; NONE ahead of any.", () -> {
            LidCourt x = sitting(0, 10, 12, 14, 12, 16);
            CHECK.due("ahead of any", x.surely(), NONE);
            Check.heard(x, 0, 9, 9);
            CHECK.due("0 sets leave it", x.surely(), NONE);
            Check.heard(x, 9, 9, 9);
            CHECK.due("NONE leaves it", x.surely(), NONE);
            Check.heard(x, 0, 10, 14);
            CHECK.due("10 and 14", x.surely(), 5);
            Check.heard(x, 0, 9, 9);
            Check.heard(x, 9, 9, 9);
            CHECK.due("0 sets, NONE leave it", x.surely(), 5);
            Check.heard(x, 0, 12, 12);
            CHECK.due("nobody in each", x.surely(), 0);
            Check.heard(x, 0, 12, 16);
            CHECK.due("16 alone: one of two of 12", x.surely(), 16);
        });
    }

    private static void ask() {
        EDGES.terms("ASK: the JUROR of these who sit who is in as many of them as not, as nearly as may be (of like ones the first).", () -> {
            LidCourt x = sitting(0, 30, 10, 12, 14, 20);
            x.rise(0);
            // 10 to 14: {1, 3}, {1, 2, 3}: c is in one of two
            Check.heard(x, 0, 10, 14);
            CHECK.due("just as many as not", x.ask(), 2);
            // 10 to 12: one set {1, 2}: all who sit are as near, the first who sits
            Check.heard(x, 0, 10, 12);
            CHECK.due("the first who sits", x.ask(), 1);
            // 10 to 20: {1, 4} with any of 2, 3: both in two of four
            Check.heard(x, 0, 10, 20);
            CHECK.due("the first of like ones", x.ask(), 2);
            // who is in fewer than half is as near as who is in as many more
            LidCourt y = sitting(0, 5, 9, 9);
            Check.heard(y, 0, 9, 9);
            CHECK.due("in two of three, not in none", y.ask(), 1);
        });
        EDGES.promise(32, "ASK by that (as it was then); NONE ahead of any.", () -> {
            LidCourt x = sitting(0, 10, 12, 14);
            CHECK.due("ahead of any", x.ask(), NONE);
            Check.heard(x, 0, 9, 9);
            CHECK.due("0 sets leave it", x.ask(), NONE);
            Check.heard(x, 0, 10, 14);
            CHECK.due("ask()", x.ask(), 1);
            x.rise(1);
            x.beat(1);
            CHECK.due("as it was then", x.ask(), 1);
            Check.heard(x, 0, 9, 9);
            Check.heard(x, 7, 9, 9);
            CHECK.due("0 sets, NONE leave it", x.ask(), 1);
            Check.heard(x, 0, 10, 10);
            CHECK.due("by the latest", x.ask(), 0);
            Check.court(x, "");
            CHECK.due("as it was then, in another COURT", x.ask(), 0);
        });
    }

    private static void dueStrikes(LidCourt x, int n, int answer, int struck) {
        CHECK.due("strikes(0, " + n + ")", x.strikes(0, n), answer);
        CHECK.due("struck()", x.struck(), struck);
    }

    private static void strikes() {
        EDGES.terms("STRIKES for a CASE to n: one side wants it FREE, the other one GUILTY; by turns each strikes one of those who sit (the first side begins), till n are left, who drop all: FREE or GUILTY, if both strike as best they can", () -> {
            // One strike, by the side that wants it FREE: the far one goes.
            dueStrikes(sitting(2, 10, 30, 12), 2, 1, 1);
            // Two strikes, the last by the side that wants it GUILTY: 10 12 and one of 30, 31 are left to it.
            dueStrikes(sitting(2, 10, 30, 12, 31), 2, 0, 0);
            // Three strikes, the last by the first side again: of any three of the others two are one ring.
            dueStrikes(sitting(2, 10, 30, 12, 31, 50), 2, 1, 4);
            // The other one leaves three of 10, 11, 12, 13 and one far: two of them are left.
            dueStrikes(sitting(3, 10, 11, 12, 13, 50), 2, 1, 0);
            // To one: it is FREE always.
            dueStrikes(sitting(0, 10, 50), 1, 1, 0);
            dueStrikes(sitting(0, 10, 50, 30), 1, 1, 0);
            LidCourt held = sitting(2, 10, 30, 12);
            held.hold(0);
            held.hold(1);
            held.hold(2);
            dueStrikes(held, 2, 1, 1);
            CHECK.due("nobody rises, no lid drops", held.now(1) * 10 + held.now(5), 70);
        });
        EDGES.terms("the first one to be struck: the least by which the first side has what it wants, if it can, else the least of all.", () -> {
            // Any far one will do: the least of them.
            dueStrikes(sitting(2, 10, 12, 11, 50), 3, 1, 3);
            dueStrikes(sitting(2, 50, 12, 11, 10), 3, 1, 0);
            dueStrikes(sitting(5, 10, 14, 13, 12), 3, 1, 0);
            // 10 15 14 16 by 2: 10 must go
            dueStrikes(sitting(2, 15, 14, 16, 10), 3, 1, 3);
            // It can't: the least of all who sit, who is not JUROR 0
            LidCourt x = sitting(0, 1, 10, 20, 30);
            x.rise(0);
            dueStrikes(x, 2, 0, 1);
        });
        EDGES.promise(33, "STRIKES for a CASE to n (1 to 10): 1 FREE, 0 GUILTY; NONE: n or fewer sit, no such ones.", () -> {
            LidCourt ten = sitting(9, 1, 2, 3, 4, 5, 6, 7, 8, 9, 10);
            CHECK.due("strikes(0, 10): just ten sit", ten.strikes(0, 10), NONE);
            CHECK.due("strikes(0, 9)", ten.strikes(0, 9), 1);
            CHECK.due("strikes(0, 1)", ten.strikes(0, 1), 1);
            for (int n : new int[] {0, -1, 11, 32, Integer.MIN_VALUE, Integer.MAX_VALUE}) {
                CHECK.due("strikes(0, " + n + ")", ten.strikes(0, n), NONE);
            }
            LidCourt x = Check.told(COURT);
            CHECK.due("two sit: strikes(0, 1)", x.strikes(0, 1), 1);
            CHECK.due("two sit: strikes(0, 2)", x.strikes(0, 2), NONE);
            CHECK.due("two sit: strikes(0, 3)", x.strikes(0, 3), NONE);
            for (int far : FAR) {
                CHECK.due("strikes(" + far + ", 1)", x.strikes(far, 1), NONE);
            }
            x.rise(0);
            CHECK.due("one sits: strikes(0, 1)", x.strikes(0, 1), NONE);
            x.rise(1);
            CHECK.due("nobody sits: strikes(0, 1)", x.strikes(0, 1), NONE);
            CHECK.due("nobody sits: strikes(0, 0)", x.strikes(0, 0), NONE);
        });
        EDGES.promise(34, "The first one to be struck by the latest strikes() that was not NONE; NONE ahead of any.", () -> {
            LidCourt x = sitting(2, 10, 30, 12);
            CHECK.due("ahead of any", x.struck(), NONE);
            x.strikes(0, 3);
            CHECK.due("NONE leaves it", x.struck(), NONE);
            x.strikes(0, 2);
            CHECK.due("struck()", x.struck(), 1);
            x.strikes(0, 3);
            x.strikes(1, 1);
            x.strikes(0, 0);
            CHECK.due("NONE leaves it", x.struck(), 1);
            x.strikes(0, 1);
            CHECK.due("by the latest", x.struck(), 0);
        });
    }

    private static void beats() {
        EDGES.terms("BEATS for a CASE: the fewest JURORS whose dents must be beaten out so that its VERDICT is FREE; of like ones the least as bits.", () -> {
            // 20 20 20, each of the last two has a dent: one of them, or both, by 'one' 0.
            LidCourt x = sitting(0, 20, 20, 20);
            CHECK.due("FREE as it is", x.beats(0), 0);
            CHECK.due("nobody's", x.beating(), 0);
            x.hold(0);
            x.tryCase(0);
            x.days(1);
            CHECK.due("both", x.beats(0), 2);
            CHECK.due("beating()", x.beating(), 6);
            x.hold(0);
            CHECK.due("who holds does not ring: 19 and 19", x.beats(0), 0);
            x.drop(0);
            x.rise(2);
            CHECK.due("who does not sit does not ring: 20 and 19", x.beats(0), 1);
            CHECK.due("beating()", x.beating(), 2);
            CHECK.due("no dent is beaten out", x.now(5), 2);
            LidCourt like = Check.told("juror a 21 1 0 seated;juror b 19 1 0 seated;juror c 20 1 0 seated;floor f 0 0;floor g 0 0;case p f;case q g;"
                + "tuned a g 20;tuned b g 20;tuned c g 20;one 1;dent 2;");
            like.hold(2);
            like.tryCase(0);
            like.days(1);
            // on g 18 18 20: a and b, both
            CHECK.due("on its FLOOR", like.beats(1), 2);
            CHECK.due("beating()", like.beating(), 3);
            // 10 and 11 with a dent each of 1, 'one' 0: a's out makes 10 and 10
            LidCourt one = Check.told("juror a 10 1 0 seated;juror b 11 1 0 seated;floor f 0 0;case p f;one 0;");
            one.tryCase(0);
            CHECK.due("a's: 10 and 10", one.beats(0), 1);
            CHECK.due("beating()", one.beating(), 1);
        });
        EDGES.terms("so that its VERDICT is FREE; of like ones the least as bits.", () -> {
            // No two are ever alike: who rings too low must be beaten out, and who rings too low then.
            LidCourt x = Check.told("juror a 12 1 0 seated;juror b 12 1 0 seated;juror c 10 1 0 seated;floor f 0 0;case p f;case q f;one 2;dent 3;");
            x.hold(2);
            x.tryCase(0);
            x.days(1);
            CHECK.due("9 9 10", x.beats(0), 0);
            x.hold(0);
            x.tryCase(1);
            x.days(1);
            CHECK.due("9 6 7: by b's it is 12, so a's and c's too", x.beats(0), 3);
            CHECK.due("beating()", x.beating(), 7);
            x.rise(2);
            CHECK.due("9 6", x.beats(0), 2);
            CHECK.due("beating()", x.beating(), 3);
            x.sit(2);
            x.rise(1);
            CHECK.due("9 7", x.beats(0), 0);
            CHECK.due("beating()", x.beating(), 0);
        });
        EDGES.promise(35, "BEATS for a CASE: how many; NONE: by none, nobody would drop, no such one.", () -> {
            LidCourt x = sitting(0, 10, 11);
            CHECK.due("by none: no dents", x.beats(0), NONE);
            x.hold(0);
            x.hold(1);
            CHECK.due("nobody would drop", x.beats(0), NONE);
            x.days(1);
            x.rise(0);
            CHECK.due("one lid alone", x.beats(0), 0);
            x.rise(1);
            CHECK.due("nobody sits", x.beats(0), NONE);
            LidCourt y = Check.told(COURT);
            for (int far : FAR) {
                CHECK.due("beats(" + far + ")", y.beats(far), NONE);
            }
            y.sit(2);
            y.tryCase(0);
            CHECK.due("by none, though there are dents", y.beats(0), NONE);
            CHECK.due("of an empty COURT", new LidCourt().beats(0), NONE);
        });
        EDGES.promise(36, "Whose, as bits, by the latest beats() that was not NONE; NONE ahead of any.", () -> {
            LidCourt x = Check.told("juror a 10 1 0 seated;juror b 11 1 0 seated;juror c 50 1 0;floor f 0 0;case p f;one 0;");
            CHECK.due("ahead of any", x.beating(), NONE);
            x.beats(0);
            CHECK.due("NONE leaves it", x.beating(), NONE);
            x.tryCase(0);
            x.beats(0);
            CHECK.due("beating()", x.beating(), 1);
            x.sit(2);
            CHECK.due("by none", x.beats(0), NONE);
            x.beats(1);
            CHECK.due("NONE leaves it", x.beating(), 1);
            x.rise(2);
            x.rise(0);
            x.beats(0);
            CHECK.due("by the latest: nobody's", x.beating(), 0);
        });
    }

    /** What is told is by the latest call of its own, whichever others came behind it. */
    private static void eachByItsOwn() {
        int[] promises = {24, 26, 29, 31, 32, 34, 36};
        String[] words = {"by the latest agree()", "by the latest jury()", "by the latest panel()", "by the latest heard()",
            "ASK by that", "by the latest strikes()", "by the latest beats()"};
        int[] due = {2 | 8, 1 | 32, 8, 16, 1, 4, 0};
        for (int i = 0; i < 7; i++) {
            int which = i;
            EDGES.promise(promises[i], words[i], () -> {
                LidCourt x = Check.told("juror a 40 1 12;juror b 9 1 9 seated;juror c 30 1 12;juror d 10 1 0 seated;juror e 12 1 12 seated;"
                    + "juror g 40 1 0;floor f 0 0;case p f;one 1;");
                CHECK.due("ahead of any", latest(x, which), NONE);
                for (int call = 0; call < 6; call++) {
                    if (call != (which < 4 ? which : which - 1)) {
                        tell(x, call);
                    }
                }
                CHECK.due("behind all others", latest(x, which), NONE);
                tell(x, which < 4 ? which : which - 1);
                CHECK.due("by its own", latest(x, which), due[which]);
                for (int call = 0; call < 6; call++) {
                    if (call != (which < 4 ? which : which - 1)) {
                        tell(x, call);
                    }
                }
                CHECK.due("behind all others again", latest(x, which), due[which]);
            });
        }
    }

    private static int latest(LidCourt x, int which) {
        int[] all = {x.agreed(), x.jurors(), x.panelled(), x.surely(), x.ask(), x.struck(), x.beating()};
        return all[which];
    }

    private static void tell(LidCourt x, int call) {
        switch (call) {
            case 0 -> x.agree(0);
            case 1 -> x.jury(0, 2);
            case 2 -> x.panel(0, 1, 0);
            case 3 -> Check.heard(x, 0, 12, 12);
            case 4 -> x.strikes(0, 2);
            default -> tellBeats(x);
        }
    }

    private static void tellBeats(LidCourt x) {
        x.hold(1);
        x.hold(3);
        x.beats(0);
        x.drop(1);
        x.drop(3);
    }
}
