/** What the document tells of the edges of the tape, of RINGS and of acts (promises 1 to 19), sentence by sentence. */
public final class EdgesOfActsTest {
    private static final Edges EDGES = new Edges("EdgesOfActsTest");
    private static final Check CHECK = EDGES.check;
    private static final int NONE = LidCourt.NONE;
    private static final String COURT = "juror a 10 5 0 seated;juror b 12 6 3 seated;juror c 30 7 12;"
        + "floor f 4 5;floor g 0 0;case p f;case q g;case r g;one 2;dent 3;";
    /** No JUROR, FLOOR, CASE or what, far off and near by. */
    private static final int[] FAR = {-1, -2, 10, 11, 31, 32, 33, 64, 1000, Integer.MIN_VALUE, Integer.MAX_VALUE};

    public static void main(String[] args) {
        tape();
        rings();
        whyNot();
        whyNotTry();
        trials();
        daysGoing();
        newObjectAndTape();
        courtAndFault();
        jurorAndTrial();
        ringLastsNow();
        jurorsActs();
        casesActs();
        daysAndUndo();
        undoMore();
        EDGES.close(1, 19);
    }

    private static void tape() {
        EDGES.promise(2, "Twenty bytes come behind the tape, of each number the highest first: how many it has", () -> {
            LidCourt x = new LidCourt();
            // "one 17;dent 8;" and six blanks
            CHECK.due("feed", x.feed(0x6f6e6520, 0x31373b64, 0x656e7420, 0x383b2020, 0x20202020), 20);
            CHECK.due("feed", x.feed(-1, -1, -1, -1, -1), 40);
            CHECK.due("end(20)", x.end(20), true);
            // "floor ff 1 2;" and seven blanks, behind what is there
            CHECK.due("feed", x.feed(0x666c6f6f, 0x72206666, 0x20312032, 0x3b202020, 0x20202020), 40);
            CHECK.due("court()", x.court(), 3);
            CHECK.due("one", x.count(3), 17);
            CHECK.due("dent", x.count(4), 8);
            CHECK.due("FLOORS", x.count(1), 1);
        });
        EDGES.promise(2, "NONE, and none come, if it would have more than 940", () -> {
            LidCourt x = new LidCourt();
            for (int i = 1; i <= 47; i++) {
                CHECK.due("feed " + i, x.feed(0x20202020, 0x20202020, 0x20202020, 0x20202020, 0x20202020), 20 * i);
            }
            CHECK.due("feed at 940", x.feed(1, 1, 1, 1, 1), NONE);
            CHECK.due("none come", x.count(5), 940);
            for (int n = 939; n > 920; n--) {
                x.end(n);
                CHECK.due("feed at " + n, x.feed(1, 1, 1, 1, 1), NONE);
                CHECK.due("none come", x.count(5), n);
            }
            x.end(920);
            CHECK.due("feed at 920", x.feed(1, 1, 1, 1, 1), 940);
            x.end(919);
            CHECK.due("feed at 919", x.feed(0x20202020, 0x20202020, 0x20202020, 0x20202020, 0x20202020), 939);
            x.end(900);
            CHECK.due("blanks alone: no byte of a refused feed is there", x.court(), 0);
        });
        EDGES.promise(3, "The tape has its first n bytes alone: true; false, if it has not so many, or n is below 0", () -> {
            LidCourt x = new LidCourt();
            CHECK.due("end(0) of an empty tape", x.end(0), true);
            CHECK.due("end(1) of an empty tape", x.end(1), false);
            Check.lay(x, "one 7;dent 2;");
            CHECK.due("end(14) of 13", x.end(14), false);
            CHECK.due("end(-1)", x.end(-1), false);
            CHECK.due("end(least)", x.end(Integer.MIN_VALUE), false);
            CHECK.due("end(most)", x.end(Integer.MAX_VALUE), false);
            CHECK.due("all are there still", x.count(5), 13);
            CHECK.due("end(13)", x.end(13), true);
            CHECK.due("all are there still", x.count(5), 13);
            CHECK.due("end(6)", x.end(6), true);
            CHECK.due("end(7), though 13 were there", x.end(7), false);
            CHECK.due("six", x.count(5), 6);
            CHECK.due("court()", x.court(), 1);
            CHECK.due("dent is not told", x.count(4), 1);
            CHECK.due("end(1) behind court()", x.end(1), false);
            // What was behind the end is no part of the last TOKEN.
            Check.lay(x, "dented1and sitting");
            x.end(6);
            CHECK.due("sentence() of 'dented'", x.sentence(), 1);
            Check.lay(x, "one 7;dent 23;");
            x.end(12);
            CHECK.due("court() of 'one 7;dent 2'", x.court(), -13);
            CHECK.due("the end, not a NUMBER of 23", x.fault(), 1);
            Check.lay(x, "one 17;dent 2;");
            x.end(5);
            Check.lay(x, ";");
            CHECK.due("court() of 'one 1;'", x.court(), 1);
            CHECK.due("one", x.count(3), 1);
        });
    }

    private static void rings() {
        EDGES.terms("PITCH and TUNE (or as TUNED there, without TUNE), less 'dent' for each of its dents (0 at least)", () -> {
            LidCourt x = Check.told("juror a 5 1 0 seated;juror b 60 1 0;floor f 20 0;floor g 20 0;floor h 0 0;case p f;case q f;case r f;"
                + "tuned a g 7;tuned b g 0;dent 3;");
            CHECK.due("PITCH and TUNE", x.ring(0, 0), 25);
            CHECK.due("the highest", x.ring(1, 0), 80);
            CHECK.due("as TUNED, without TUNE", x.ring(0, 1), 7);
            CHECK.due("TUNED to 0", x.ring(1, 1), 0);
            CHECK.due("TUNE 0", x.ring(0, 2), 5);
            int[] onF = {22, 19, 16};
            int[] onG = {4, 1, 0};
            int[] onH = {2, 0, 0};
            for (int c = 0; c < 3; c++) {
                x.tryCase(c);
                x.days(1);
                CHECK.due("less dents", x.ring(0, 0), onF[c]);
                CHECK.due("as TUNED, less dents, 0 at least", x.ring(0, 1), onG[c]);
                CHECK.due("0 at least", x.ring(0, 2), onH[c]);
            }
            LidCourt y = Check.told("juror a 5 1 0 seated;floor f 1 0;case p f;dent 0;");
            y.tryCase(0);
            CHECK.due("a 'dent' of 0", y.ring(0, 0), 6);
            // Twenty dents of 9 each are more than any RING.
            LidCourt z = Check.told("juror a 60 1 0 seated;juror b 1 1 12 seated;floor f 20 0;case p f;dent 9;");
            for (int i = 1; i <= 20; i++) {
                z.hold(1);
                z.tryCase(0);
                z.appeal(0);
                z.days(1);
                CHECK.due("dents " + i, z.ring(0, 0), Math.max(0, 80 - 9 * i));
            }
        });
        EDGES.terms("it lasts LENGTH less DULL (1 at least)", () -> {
            LidCourt x = Check.told("juror a 1 5 0 seated;juror b 1 1 0;juror c 1 20 0;floor f 0 0;floor g 0 4;floor h 0 5;floor i 0 20;case p f;");
            int[][] lasts = {{5, 1, 1, 1}, {1, 1, 1, 1}, {20, 16, 15, 1}};
            for (int j = 0; j < 3; j++) {
                for (int f = 0; f < 4; f++) {
                    CHECK.due("lasts(" + j + ", " + f + ")", x.lasts(j, f), lasts[j][f]);
                }
            }
            x.tryCase(0);
            CHECK.due("by dents it lasts as long", x.lasts(0, 0), 5);
        });
        EDGES.terms("Some lids are ONE RING, if there is one of them at least, and the highest RING is above the lowest one by as many as 'one' tells, at most.", () -> {
            for (int one = 0; one <= 20; one++) {
                for (int apart = Math.max(0, one - 1); apart <= one + 1; apart++) {
                    LidCourt x = Check.told("juror a 20 1 0 seated;juror b " + (20 + apart) + " 1 0 seated;juror c 20 1 0 seated;floor f 0 0;case p f;one " + one + ";");
                    CHECK.due("verdict, 'one' " + one + ", apart " + apart, x.verdict(0), apart <= one ? 1 : 0);
                }
            }
            LidCourt one = Check.told("juror a 20 1 0 seated;floor f 0 0;case p f;one 0;");
            CHECK.due("one lid alone", one.verdict(0), 1);
            one.rise(0);
            CHECK.due("no lid", one.verdict(0), NONE);
            CHECK.due("no lid is not FREE", one.likely(0, 0), 0);
        });
    }

    private static void whyNot() {
        EDGES.terms("To SIT: why not: 1 he sits. To RISE: 1 he does not sit.", () -> {
            LidCourt x = Check.told(COURT);
            CHECK.due("sit(0), who is seated", x.sit(0), 1);
            CHECK.due("rise(2), who is not", x.rise(2), 1);
            CHECK.due("sit(2)", x.sit(2), 0);
            CHECK.due("sit(2)", x.sit(2), 1);
            CHECK.due("rise(2)", x.rise(2), 0);
            CHECK.due("rise(2)", x.rise(2), 1);
            CHECK.due("two acts", x.undo(), 1);
        });
        EDGES.terms("To HOLD: 1 he holds; to DROP: 1 he does not hold (he may hold, though he does not sit).", () -> {
            LidCourt x = Check.told(COURT);
            CHECK.due("drop(0)", x.drop(0), 1);
            CHECK.due("hold(0)", x.hold(0), 0);
            CHECK.due("hold(0)", x.hold(0), 1);
            CHECK.due("drop(2)", x.drop(2), 1);
            CHECK.due("hold(2), who does not sit", x.hold(2), 0);
            CHECK.due("hold(2)", x.hold(2), 1);
            CHECK.due("who holds", x.now(2), 5);
            CHECK.due("sit(2), who holds", x.sit(2), 0);
            CHECK.due("rise(0), who holds", x.rise(0), 0);
            CHECK.due("who holds", x.now(2), 5);
            CHECK.due("drop(0), who does not sit", x.drop(0), 0);
            CHECK.due("drop(0)", x.drop(0), 1);
            CHECK.due("who holds", x.now(2), 4);
        });
        EDGES.terms("To be BEATEN: 1 there are no dents: it has none.", () -> {
            LidCourt x = Check.told(COURT);
            CHECK.due("beat(0)", x.beat(0), 1);
            x.tryCase(0);
            x.days(1);
            x.tryCase(1);
            CHECK.due("dents", x.juror(0, 5), 2);
            CHECK.due("beat(0)", x.beat(0), 0);
            CHECK.due("it has none", x.juror(0, 5), 0);
            CHECK.due("beat(0)", x.beat(0), 1);
            CHECK.due("the others have theirs", x.juror(1, 5), 2);
            x.rise(1);
            CHECK.due("beat(1), who does not sit", x.beat(1), 0);
            CHECK.due("beat(2), who never dropped", x.beat(2), 1);
            LidCourt y = Check.told("juror a 1 1 0 seated;floor f 0 0;case p f;dent 0;");
            y.tryCase(0);
            CHECK.due("a dent that counts nothing is one", y.beat(0), 0);
        });
    }

    private static void whyNotTry() {
        EDGES.terms("To TRY a CASE: why not, the least: 1 it was tried (and not appealed since); 2 a CASE was tried on this DAY; 3 nobody who sits does not hold", () -> {
            LidCourt x = Check.told(COURT);
            x.rise(0);
            x.hold(1);
            CHECK.due("3: who sits holds", x.tryCase(0), 3);
            x.rise(1);
            CHECK.due("3: nobody sits, c does not hold", x.tryCase(0), 3);
            x.sit(0);
            x.sit(1);
            CHECK.due("b holds on", x.tryCase(0), 0);
            CHECK.due("1 and 2", x.tryCase(0), 1);
            CHECK.due("2", x.tryCase(1), 2);
            x.rise(0);
            CHECK.due("1, 2 and 3", x.tryCase(0), 1);
            CHECK.due("2 and 3", x.tryCase(1), 2);
            x.days(1);
            x.rise(1);
            CHECK.due("1 and 3", x.tryCase(0), 1);
            CHECK.due("3", x.tryCase(1), 3);
            x.sit(0);
            CHECK.due("1", x.tryCase(0), 1);
            CHECK.due("appeal", x.appeal(0), 0);
            CHECK.due("appealed since", x.tryCase(0), 0);
            CHECK.due("tried again", x.tryCase(0), 1);
            LidCourt y = Check.told(COURT);
            y.hold(1);
            y.tryCase(0);
            y.appeal(0);
            CHECK.due("appealed, but on this DAY", y.tryCase(0), 2);
            CHECK.due("another one, too", y.tryCase(1), 2);
        });
    }

    private static void trials() {
        EDGES.terms("all who sit and do not hold drop their lids on its FLOOR: it is FREE, if they are ONE RING, else GUILTY", () -> {
            // a and b are two apart on f and g; c, who does not sit, would be far off.
            LidCourt x = Check.told(COURT);
            x.tryCase(0);
            CHECK.due("FREE", x.trial(0, 1), 1);
            CHECK.due("who dropped", x.trial(0, 3), 3);
            LidCourt y = Check.told(COURT);
            y.sit(2);
            y.tryCase(0);
            CHECK.due("GUILTY by c", y.trial(0, 1), 2);
            CHECK.due("who dropped", y.trial(0, 3), 7);
            LidCourt z = Check.told(COURT);
            z.sit(2);
            z.hold(2);
            z.tryCase(0);
            CHECK.due("FREE as c holds", z.trial(0, 1), 1);
            LidCourt tuned = Check.told("juror a 9 1 0 seated;juror b 9 1 0 seated;floor f 0 0;floor g 0 0;tuned a g 20;case p g;case q f;");
            tuned.tryCase(0);
            CHECK.due("on its FLOOR", tuned.trial(0, 1), 2);
            tuned.days(1);
            tuned.tryCase(1);
            CHECK.due("on its FLOOR", tuned.trial(1, 1), 1);
        });
        EDGES.terms("each of these has a dent more (20 at most; behind the verdict)", () -> {
            LidCourt x = Check.told("juror a 60 1 0 seated;juror b 20 1 0 seated;juror c 20 1 0;floor f 0 0;case p f;");
            for (int i = 1; i <= 22; i++) {
                x.hold(1);
                CHECK.due("trial " + i, x.tryCase(0), 0);
                CHECK.due("dents", x.juror(0, 5), Math.min(i, 20));
                CHECK.due("dropped", x.juror(0, 6), i);
                CHECK.due("all dents", x.now(5), Math.min(i, 20));
                x.appeal(0);
                x.days(1);
            }
            CHECK.due("60 less 20", x.ring(0, 0), 40);
            // RINGS 10 and 13 are one ring by 3; with the dent of a alone they would be four apart.
            LidCourt y = Check.told("juror a 10 1 0 seated;juror b 13 1 0 seated;floor f 0 0;case p f;case q f;case r f;");
            y.hold(1);
            y.tryCase(0);
            CHECK.due("a dropped alone", y.trial(0, 1), 1);
            y.days(1);
            CHECK.due("9 and 13", y.verdict(1), 0);
            y.beat(0);
            y.tryCase(1);
            CHECK.due("behind the verdict: 10 and 13", y.trial(1, 1), 1);
            CHECK.due("a dent each", y.now(5), 2);
        });
        EDGES.terms("who sits and holds has HELD ON", () -> {
            LidCourt x = Check.told(COURT);
            x.hold(1);
            x.hold(2);
            x.tryCase(0);
            CHECK.due("b alone: c does not sit", x.trial(0, 4), 2);
            CHECK.due("a alone dropped", x.trial(0, 3), 1);
            CHECK.due("b has no dent", x.juror(1, 5), 0);
        });
        EDGES.terms("To APPEAL: 1 it was not tried; 2 nobody HELD ON, when it was tried last: it is open again.", () -> {
            LidCourt x = Check.told(COURT);
            CHECK.due("1", x.appeal(0), 1);
            x.hold(1);
            CHECK.due("1, though one holds", x.appeal(0), 1);
            x.tryCase(0);
            x.drop(1);
            CHECK.due("who HELD ON then holds no more", x.appeal(0), 0);
            CHECK.due("open", x.trial(0, 1), 0);
            CHECK.due("1: it was not tried since", x.appeal(0), 1);
            x.days(1);
            CHECK.due("tried again, all drop", x.tryCase(0), 0);
            CHECK.due("2: by the last time", x.appeal(0), 2);
            x.hold(1);
            CHECK.due("2: who holds now did not then", x.appeal(0), 2);
            CHECK.due("1: another CASE", x.appeal(1), 1);
        });
    }

    private static void daysGoing() {
        EDGES.terms("A DAY (0 to 399; 400: all are over) goes: nobody holds any more. It is the next DAY.", () -> {
            LidCourt x = Check.told(COURT);
            CHECK.due("DAY", x.now(0), 0);
            for (int day = 60; day <= 360; day += 60) {
                x.days(60);
            }
            CHECK.due("39 more", x.days(39), 39);
            CHECK.due("DAY", x.now(0), 399);
            x.hold(0);
            x.hold(2);
            x.tryCase(0);
            CHECK.due("tried on DAY 399", x.trial(0, 2), 399);
            CHECK.due("the last DAY goes", x.days(1), 1);
            CHECK.due("nobody holds any more", x.now(2), 0);
            CHECK.due("nothing was tried on this DAY", x.now(7), 0);
            CHECK.due("who sits stays", x.now(1), 3);
            CHECK.due("DAY", x.now(0), 400);
            x.hold(0);
            CHECK.due("all are over", x.days(1), 0);
            CHECK.due("no DAY goes: he holds", x.now(2), 1);
            CHECK.due("DAY", x.now(0), 400);
        });
    }

    private static void newObjectAndTape() {
        EDGES.promise(1, "An empty COURT; an empty tape.", () -> {
            LidCourt x = new LidCourt();
            int[] counts = {0, 0, 0, 3, 1, 0};
            for (int what = 0; what < 6; what++) {
                CHECK.due("count(" + what + ")", x.count(what), counts[what]);
            }
            for (int what = 0; what < 8; what++) {
                CHECK.due("now(" + what + ")", x.now(what), 0);
            }
            CHECK.due("end(1)", x.end(1), false);
            CHECK.due("court() of the empty tape", x.court(), 0);
            CHECK.due("book(1) of the empty tape", x.book(1), NONE);
            CHECK.due("sentence() of the empty tape", x.sentence(), -1);
            CHECK.due("heard() of the empty tape", x.heard(), NONE);
        });
    }

    private static void courtAndFault() {
        EDGES.promise(4, "The tape (empty then, here and below) is the COURT now: how many LINES; -1 less the place of a FAULT: it stays.", () -> {
            LidCourt x = new LidCourt();
            CHECK.due("ten LINES", Check.court(x, COURT), 10);
            CHECK.due("the tape is empty", x.count(5), 0);
            x.hold(2);
            String before = Check.allThatIsSo(x);
            CHECK.due("a FAULT at 0", Check.court(x, "x"), -1);
            CHECK.due("the tape is empty", x.count(5), 0);
            CHECK.dueText("the COURT stays", Check.allThatIsSo(x), before);
            CHECK.due("a FAULT at the end", Check.court(x, "juror z 1 1 1;one 4"), -20);
            CHECK.dueText("the COURT stays", Check.allThatIsSo(x), before);
            CHECK.due("what was done can be undone", x.undo(), 0);
            CHECK.due("an empty COURT", x.court(), 0);
            CHECK.due("JURORS", x.count(0), 0);
            for (String text : new String[] {"day 1;", "day 0;"}) {
                Check.book(x, 0, text);
                CHECK.due("empty behind book()", x.count(5), 0);
            }
            for (String text : new String[] {"dented", "dent"}) {
                Check.sentence(x, text);
                CHECK.due("empty behind sentence()", x.count(5), 0);
            }
            Check.heard(x, 9, 9, 9);
            CHECK.due("empty behind heard()", x.count(5), 0);
            Check.lay(x, "abcd");
            x.heard();
            CHECK.due("empty behind heard() not as told", x.count(5), 0);
        });
        EDGES.promise(5, "The kind of the FAULT of the latest court(), book() or sentence() (a book() of -1000 leaves it); 0 without one and ahead of any.", () -> {
            LidCourt x = new LidCourt();
            CHECK.due("ahead of any", x.fault(), 0);
            Check.court(x, "one 21;");
            CHECK.due("of court()", x.fault(), 2);
            Check.book(x, 0, "zz sits;");
            CHECK.due("of book()", x.fault(), 3);
            CHECK.due("book(2)", x.book(2), -1000);
            CHECK.due("left", x.fault(), 3);
            Check.sentence(x, "((((((((dented");
            CHECK.due("of sentence()", x.fault(), 4);
            Check.heard(x, 0, 0, 0);
            x.days(1);
            x.undo();
            x.image(0);
            x.restore(0);
            CHECK.due("no other call", x.fault(), 4);
            Check.book(x, 0, "day 1;");
            CHECK.due("without one", x.fault(), 0);
            Check.sentence(x, "");
            CHECK.due("of sentence()", x.fault(), 1);
            Check.sentence(x, "dented");
            CHECK.due("without one", x.fault(), 0);
            Check.book(x, 1, "day");
            CHECK.due("of book()", x.fault(), 1);
            Check.court(x, COURT);
            CHECK.due("without one", x.fault(), 0);
            CHECK.due("a BOOK that is WRONG", Check.book(x, 1, "a sits;"), 0);
            CHECK.due("is without one", x.fault(), 0);
        });
    }

    private static void jurorAndTrial() {
        EDGES.promise(6, "Of a JUROR: 0 PITCH, 1 LENGTH, 2 HANDS, 3 sits (1, 0), 4 holds (1, 0), 5 dents, 6 how often he dropped so far.", () -> {
            LidCourt x = Check.told(COURT);
            dueJuror(x, 0, 10, 5, 0, 1, 0, 0, 0);
            dueJuror(x, 1, 12, 6, 3, 1, 0, 0, 0);
            dueJuror(x, 2, 30, 7, 12, 0, 0, 0, 0);
            x.hold(1);
            x.hold(2);
            x.tryCase(0);
            dueJuror(x, 0, 10, 5, 0, 1, 0, 1, 1);
            dueJuror(x, 1, 12, 6, 3, 1, 1, 0, 0);
            dueJuror(x, 2, 30, 7, 12, 0, 1, 0, 0);
            x.beat(0);
            dueJuror(x, 0, 10, 5, 0, 1, 0, 0, 1);
        });
        EDGES.promise(6, "NoSuchElementException: no such ones.", () -> {
            LidCourt x = Check.told(COURT);
            for (int far : FAR) {
                CHECK.dueNoSuch("juror(" + far + ", 0)", () -> x.juror(far, 0));
                CHECK.dueNoSuch("juror(0, " + far + ")", () -> x.juror(0, far));
            }
            CHECK.dueNoSuch("juror(3, 0)", () -> x.juror(3, 0));
            CHECK.dueNoSuch("juror(0, 7)", () -> x.juror(0, 7));
            CHECK.dueNoSuch("juror(3, 7)", () -> x.juror(3, 7));
            CHECK.dueNoSuch("of an empty COURT", () -> new LidCourt().juror(0, 0));
        });
        EDGES.promise(7, "Of a CASE: 0 its FLOOR, 1 how it is (0 open, 1 FREE, 2 GUILTY), 2 the DAY on which it was tried last (NONE), 3 who dropped then, 4 who HELD ON then, as bits (0: never tried).", () -> {
            LidCourt x = Check.told(COURT);
            x.days(7);
            dueTrial(x, 0, 0, 0, NONE, 0, 0);
            dueTrial(x, 1, 1, 0, NONE, 0, 0);
            x.hold(1);
            x.tryCase(1);
            dueTrial(x, 1, 1, 1, 7, 1, 2);
            x.days(1);
            x.sit(2);
            x.tryCase(0);
            dueTrial(x, 0, 0, 2, 8, 7, 0);
            dueTrial(x, 1, 1, 1, 7, 1, 2);
            x.days(1);
            x.appeal(1);
            dueTrial(x, 1, 1, 0, 7, 1, 2);
            x.rise(0);
            x.rise(1);
            x.tryCase(1);
            dueTrial(x, 1, 1, 1, 9, 4, 0);
        });
        EDGES.promise(7, "NoSuchElementException: no such ones.", () -> {
            LidCourt x = Check.told(COURT);
            for (int far : FAR) {
                CHECK.dueNoSuch("trial(" + far + ", 0)", () -> x.trial(far, 0));
                CHECK.dueNoSuch("trial(0, " + far + ")", () -> x.trial(0, far));
            }
            CHECK.dueNoSuch("trial(3, 0)", () -> x.trial(3, 0));
            CHECK.dueNoSuch("trial(0, 5)", () -> x.trial(0, 5));
            CHECK.dueNoSuch("of an empty COURT", () -> new LidCourt().trial(0, 0));
        });
    }

    private static void dueJuror(LidCourt x, int j, int... want) {
        for (int what = 0; what < 7; what++) {
            CHECK.due("juror(" + j + ", " + what + ")", x.juror(j, what), want[what]);
        }
    }

    private static void dueTrial(LidCourt x, int c, int... want) {
        for (int what = 0; what < 5; what++) {
            CHECK.due("trial(" + c + ", " + what + ")", x.trial(c, what), want[what]);
        }
    }

    private static void ringLastsNow() {
        EDGES.promise(8, "RING of a JUROR on a FLOOR; NONE: no such ones.", () -> {
            LidCourt x = Check.told(COURT);
            CHECK.due("ring(2, 1)", x.ring(2, 1), 30);
            for (int far : FAR) {
                CHECK.due("ring(" + far + ", 0)", x.ring(far, 0), NONE);
                CHECK.due("ring(0, " + far + ")", x.ring(0, far), NONE);
            }
            CHECK.due("ring(3, 0)", x.ring(3, 0), NONE);
            CHECK.due("ring(0, 2)", x.ring(0, 2), NONE);
            CHECK.due("of an empty COURT", new LidCourt().ring(0, 0), NONE);
        });
        EDGES.promise(9, "How long it lasts; NONE: no such ones.", () -> {
            LidCourt x = Check.told(COURT);
            CHECK.due("lasts(2, 1)", x.lasts(2, 1), 7);
            for (int far : FAR) {
                CHECK.due("lasts(" + far + ", 0)", x.lasts(far, 0), NONE);
                CHECK.due("lasts(0, " + far + ")", x.lasts(0, far), NONE);
            }
            CHECK.due("lasts(3, 0)", x.lasts(3, 0), NONE);
            CHECK.due("lasts(0, 2)", x.lasts(0, 2), NONE);
            CHECK.due("of an empty COURT", new LidCourt().lasts(0, 0), NONE);
        });
        EDGES.promise(10, "0 the DAY, 1 who sits, 2 who holds, as bits, 3 CASES that are FREE, 4 GUILTY, as bits, 5 all dents, 6 how often was tried so far, 7 whether was tried on this DAY (1, 0).", () -> {
            LidCourt x = Check.told(COURT);
            dueNow(x, 0, 3, 0, 0, 0, 0, 0, 0);
            x.hold(2);
            x.tryCase(2);
            dueNow(x, 0, 3, 4, 4, 0, 2, 1, 1);
            x.days(3);
            dueNow(x, 3, 3, 0, 4, 0, 2, 1, 0);
            x.sit(2);
            x.hold(0);
            x.tryCase(1);
            dueNow(x, 3, 7, 1, 4, 2, 4, 2, 1);
            x.appeal(1);
            dueNow(x, 3, 7, 1, 4, 0, 4, 2, 1);
            x.beat(1);
            dueNow(x, 3, 7, 1, 4, 0, 2, 2, 1);
        });
        EDGES.promise(10, "NONE for another what.", () -> {
            LidCourt x = Check.told(COURT);
            for (int far : FAR) {
                CHECK.due("now(" + far + ")", x.now(far), NONE);
            }
            CHECK.due("now(8)", x.now(8), NONE);
            CHECK.due("now(9)", x.now(9), NONE);
        });
    }

    private static void dueNow(LidCourt x, int... want) {
        for (int what = 0; what < 8; what++) {
            CHECK.due("now(" + what + ")", x.now(what), want[what]);
        }
    }

    private static void jurorsActs() {
        EDGES.promise(11, "He SITS: 0, or why not; NONE: no such one.", () -> {
            LidCourt x = Check.told(COURT);
            CHECK.due("sit(2)", x.sit(2), 0);
            CHECK.due("sit(2)", x.sit(2), 1);
            CHECK.due("sit(3)", x.sit(3), NONE);
            for (int far : FAR) {
                CHECK.due("sit(" + far + ")", x.sit(far), NONE);
            }
            CHECK.due("who sits", x.now(1), 7);
            CHECK.due("one act", x.undo(), 0);
        });
        EDGES.promise(12, "He RISES: 0, or why not; NONE: no such one.", () -> {
            LidCourt x = Check.told(COURT);
            CHECK.due("rise(0)", x.rise(0), 0);
            CHECK.due("rise(0)", x.rise(0), 1);
            CHECK.due("rise(3)", x.rise(3), NONE);
            for (int far : FAR) {
                CHECK.due("rise(" + far + ")", x.rise(far), NONE);
            }
            CHECK.due("who sits", x.now(1), 2);
            CHECK.due("one act", x.undo(), 0);
        });
        EDGES.promise(13, "He HOLDS: 0, or why not; NONE: no such one.", () -> {
            LidCourt x = Check.told(COURT);
            CHECK.due("hold(2)", x.hold(2), 0);
            CHECK.due("hold(2)", x.hold(2), 1);
            CHECK.due("hold(3)", x.hold(3), NONE);
            for (int far : FAR) {
                CHECK.due("hold(" + far + ")", x.hold(far), NONE);
            }
            CHECK.due("who holds", x.now(2), 4);
            CHECK.due("one act", x.undo(), 0);
        });
        EDGES.promise(14, "He DROPS: 0, or why not; NONE: no such one.", () -> {
            LidCourt x = Check.told(COURT);
            x.hold(0);
            x.hold(1);
            CHECK.due("drop(0)", x.drop(0), 0);
            CHECK.due("drop(0)", x.drop(0), 1);
            CHECK.due("drop(3)", x.drop(3), NONE);
            for (int far : FAR) {
                CHECK.due("drop(" + far + ")", x.drop(far), NONE);
            }
            CHECK.due("who holds", x.now(2), 2);
            CHECK.due("no lid was dropped by it", x.juror(0, 6), 0);
            CHECK.due("one act more than two", x.undo(), 2);
        });
        EDGES.promise(15, "His dents are BEATEN out: 0, or why not; NONE: no such one.", () -> {
            LidCourt x = Check.told(COURT);
            x.tryCase(0);
            CHECK.due("beat(0)", x.beat(0), 0);
            CHECK.due("beat(0)", x.beat(0), 1);
            CHECK.due("beat(3)", x.beat(3), NONE);
            for (int far : FAR) {
                CHECK.due("beat(" + far + ")", x.beat(far), NONE);
            }
            CHECK.due("all dents", x.now(5), 1);
            CHECK.due("one act more than one", x.undo(), 1);
        });
    }

    private static void casesActs() {
        EDGES.promise(16, "A CASE is TRIED: 0, or why not; NONE: no such one.", () -> {
            LidCourt x = Check.told(COURT);
            CHECK.due("tryCase(3)", x.tryCase(3), NONE);
            for (int far : FAR) {
                CHECK.due("tryCase(" + far + ")", x.tryCase(far), NONE);
            }
            CHECK.due("nothing was tried", x.now(6), 0);
            CHECK.due("tryCase(2)", x.tryCase(2), 0);
            CHECK.due("tryCase(2)", x.tryCase(2), 1);
            CHECK.due("tryCase(1)", x.tryCase(1), 2);
            CHECK.due("tryCase(3) is none such, not 2", x.tryCase(3), NONE);
            CHECK.due("once", x.now(6), 1);
            CHECK.due("one act", x.undo(), 0);
            CHECK.due("of an empty COURT", new LidCourt().tryCase(0), NONE);
        });
        EDGES.promise(17, "It is APPEALED: 0, or why not; NONE: no such one.", () -> {
            LidCourt x = Check.told(COURT);
            CHECK.due("appeal(3)", x.appeal(3), NONE);
            for (int far : FAR) {
                CHECK.due("appeal(" + far + ")", x.appeal(far), NONE);
            }
            CHECK.due("appeal(0)", x.appeal(0), 1);
            x.tryCase(0);
            CHECK.due("appeal(0)", x.appeal(0), 2);
            x.days(1);
            x.hold(0);
            x.tryCase(2);
            CHECK.due("appeal(2)", x.appeal(2), 0);
            CHECK.due("FREE, GUILTY are others alone", x.now(3) | x.now(4), 1);
            CHECK.due("acts: try, day, hold, try, appeal", x.undo(), 4);
            CHECK.due("of an empty COURT", new LidCourt().appeal(0), NONE);
        });
    }

    private static void daysAndUndo() {
        EDGES.promise(18, "n (1 to 60) DAYS go by: how many did; NONE: not as told.", () -> {
            LidCourt x = Check.told(COURT);
            for (int n : new int[] {0, -1, 61, 62, 400, Integer.MIN_VALUE, Integer.MAX_VALUE}) {
                CHECK.due("days(" + n + ")", x.days(n), NONE);
            }
            CHECK.due("DAY", x.now(0), 0);
            CHECK.due("none to undo", x.undo(), NONE);
            CHECK.due("days(1)", x.days(1), 1);
            for (int i = 0; i < 6; i++) {
                CHECK.due("days(60)", x.days(60), 60);
            }
            CHECK.due("DAY", x.now(0), 361);
            CHECK.due("days(60), 39 are left", x.days(60), 39);
            CHECK.due("DAY", x.now(0), 400);
            CHECK.due("days(60), none is left", x.days(60), 0);
            CHECK.due("days(61) is not as told, on DAY 400 too", x.days(61), NONE);
            CHECK.due("days() of 0 is not undone", x.undo(), 7);
            CHECK.due("DAY", x.now(0), 361);
            CHECK.due("days(39), 39 are left", x.days(39), 39);
            CHECK.due("an empty COURT has DAYS", new LidCourt().days(60), 60);
        });
        EDGES.promise(19, "The latest of sit(), rise(), hold(), drop(), beat(), tryCase(), appeal() that was done, days() above 0, drawn() above 0, a BOOK that was lived is undone", () -> {
            LidCourt x = Check.told(COURT);
            String[] was = new String[11];
            for (int act = 0; act < 10; act++) {
                was[act] = Check.allThatIsSo(x);
                int before = act == 0 ? 0 : act;
                doAct(x, act);
                CHECK.due("act " + act + " changed something", !Check.allThatIsSo(x).equals(was[act]), true);
                String behind = Check.allThatIsSo(x);
                CHECK.due("undo() of act " + act, x.undo(), Math.min(7, before));
                CHECK.dueText("all is as ahead of act " + act, Check.allThatIsSo(x), was[act]);
                doAct(x, act);
                CHECK.dueText("act " + act + " again", Check.allThatIsSo(x), behind);
            }
            for (int act = 9; act >= 2; act--) {
                CHECK.due("undo() back to act " + act, x.undo(), act - 2);
                CHECK.dueText("all is as ahead of act " + act, Check.allThatIsSo(x), was[act]);
            }
            CHECK.due("8 at most are kept", x.undo(), NONE);
            CHECK.dueText("all stays", Check.allThatIsSo(x), was[2]);
        });
    }

    private static void doAct(LidCourt x, int act) {
        switch (act) {
            case 0 -> x.sit(2);
            case 1 -> x.hold(2);
            case 2 -> x.drop(2);
            case 3 -> x.hold(1);
            case 4 -> x.tryCase(0);
            case 5 -> x.beat(0);
            case 6 -> x.appeal(0);
            case 7 -> x.days(60);
            case 8 -> x.drawn(5, 77);
            default -> Check.book(x, 1, "day 3;a rises;a rises;");
        }
    }

    private static void undoMore() {
        EDGES.promise(19, "how many more can be (8 at most are kept); NONE: none is.", () -> {
            LidCourt x = Check.told(COURT);
            CHECK.due("undo() of none", x.undo(), NONE);
            for (int many = 1; many <= 20; many++) {
                for (int i = 0; i < many; i++) {
                    x.days(1);
                }
                int kept = Math.min(8, many);
                int day = x.now(0);
                for (int more = kept - 1; more >= 0; more--) {
                    CHECK.due("undo() of " + many, x.undo(), more);
                    day--;
                    CHECK.due("DAY", x.now(0), day);
                }
                CHECK.due("undo() of none", x.undo(), NONE);
                CHECK.due("DAY stays", x.now(0), day);
            }
        });
        EDGES.promise(19, "that was done", () -> {
            LidCourt x = Check.told(COURT);
            x.sit(2);
            int[] refused = {x.sit(2), x.rise(3), x.drop(0), x.beat(0), x.tryCase(3), x.appeal(0), x.days(0), x.drawn(0, 1), x.book(2)};
            for (int answer : refused) {
                CHECK.due("refused", answer != 0, true);
            }
            Check.book(x, 0, "day 1;");
            Check.book(x, 1, "day 61;");
            Check.sentence(x, "dented");
            x.image(0);
            CHECK.due("a refused one, a BOOK that was judged, one with a FAULT are not undone", x.undo(), 0);
            CHECK.due("who sits", x.now(1), 3);
            CHECK.due("the SENTENCE stays", x.said(-1), 0);
            CHECK.due("an undo() is not undone", x.undo(), NONE);
            while (x.now(0) < 400) {
                x.days(60);
            }
            x.image(1);
            x.restore(1);
            CHECK.due("drawn() of 0", x.drawn(1, 1), 0);
            CHECK.due("days() of 0", x.days(1), 0);
            CHECK.due("are not undone", x.undo(), NONE);
        });
        EDGES.promise(19, "a BOOK that was lived is undone", () -> {
            LidCourt x = Check.told(COURT);
            String before = Check.allThatIsSo(x);
            CHECK.due("all LINES", Check.book(x, 1, "c sits;a holds;try p;appeal p;day 2;a beaten;"), 5);
            CHECK.due("one undo() for all LINES", x.undo(), 0);
            CHECK.dueText("all is as it was", Check.allThatIsSo(x), before);
            CHECK.due("WRONG at once", Check.book(x, 1, "a sits;"), 0);
            CHECK.due("lived, though nothing was done", x.undo(), 0);
            CHECK.due("none", x.undo(), NONE);
        });
    }
}
