/** What the document tells of the edges of rolls, draws, BOOKS, SENTENCES and images (promises 37 to 47), sentence by sentence. */
public final class EdgesOfBooksTest {
    private static final Edges EDGES = new Edges("EdgesOfBooksTest");
    private static final Check CHECK = EDGES.check;
    private static final int NONE = LidCourt.NONE;
    private static final String COURT = "juror a 10 5 0 seated;juror b 12 6 3 seated;juror c 30 7 12;"
        + "floor f 4 5;floor g 0 0;case p f;case q g;one 2;dent 3;";
    private static final int[] FAR = {-1, -2, 5, 10, 32, 1000, Integer.MIN_VALUE, Integer.MAX_VALUE};

    public static void main(String[] args) {
        rolls();
        draws();
        drawnAndOdds();
        books();
        told();
        sentences();
        images();
        counts();
        newCourtsAndThrows();
        manyCalls();
        EDGES.close(37, 47);
    }

    private static LidCourt onDay(String court, int day) {
        LidCourt x = Check.told(court);
        for (int left = day; left > 0; left -= 60) {
            x.days(Math.min(60, left));
        }
        return x;
    }

    private static void rolls() {
        EDGES.terms("ROLL of a CASE: its NAME, then ' is open', ' is free', ' is guilty'; behind ' is free', ' is guilty' how many dropped, when it was tried last: ' by ' and digits.", () -> {
            for (int many = 1; many <= 10; many++) {
                StringBuilder text = new StringBuilder("floor f 0 0;case z f;case abcdefg f;one 0;dent 1;");
                for (int j = 0; j < 10; j++) {
                    text.append("juror j").append((char) ('a' + j)).append(" 20 1 0").append(j < many ? " seated;" : ";");
                }
                LidCourt x = Check.told(text.toString());
                CHECK.dueText("roll(0)", Check.roll(x, 0), "z is open");
                CHECK.dueText("roll(1)", Check.roll(x, 1), "abcdefg is open");
                x.tryCase(1);
                CHECK.dueText("roll(1)", Check.roll(x, 1), "abcdefg is free by " + many);
                x.rise(0);
                CHECK.dueText("when it was tried last", Check.roll(x, 1), "abcdefg is free by " + many);
                x.sit(9);
                x.sit(0);
                x.days(1);
                x.tryCase(0);
                // who sat at the first trial has a dent: all but the last are one ring, unless all ten sat then
                String how = many == 10 ? "free by 10" : "guilty by " + (many + 1);
                CHECK.dueText("roll(0)", Check.roll(x, 0), "z is " + how);
            }
            LidCourt y = Check.told(COURT);
            y.hold(0);
            y.tryCase(0);
            y.appeal(0);
            CHECK.dueText("open again", Check.roll(y, 0), "p is open");
            y.days(1);
            y.tryCase(0);
            CHECK.dueText("tried last: two", Check.roll(y, 0), "p is free by 2");
        });
        EDGES.promise(37, "ROLL of a CASE: how many bytes; NONE: no such one.", () -> {
            LidCourt x = Check.told(COURT);
            CHECK.due("roll(0)", x.roll(0), 9);
            for (int far : FAR) {
                CHECK.due("roll(" + far + ")", x.roll(far), NONE);
            }
            CHECK.due("roll(2)", x.roll(2), NONE);
            CHECK.due("of an empty COURT", new LidCourt().roll(0), NONE);
        });
        EDGES.promise(38, "Byte i of the latest ROLL; NONE: none such.", () -> {
            LidCourt x = Check.told(COURT);
            CHECK.due("ahead of any", x.byteAt(0), NONE);
            x.roll(2);
            CHECK.due("no ROLL of no CASE", x.byteAt(0), NONE);
            x.tryCase(1);
            x.roll(1);
            String roll = "q is free by 2";
            for (int i = 0; i < roll.length(); i++) {
                CHECK.due("byteAt(" + i + ")", x.byteAt(i), roll.charAt(i));
            }
            for (int i : new int[] {-1, 14, 15, 40, Integer.MIN_VALUE, Integer.MAX_VALUE}) {
                CHECK.due("byteAt(" + i + ")", x.byteAt(i), NONE);
            }
            x.roll(2);
            CHECK.due("no ROLL of no CASE: the latest stays", x.byteAt(13), '2');
            x.roll(0);
            CHECK.due("the last byte of a shorter one", x.byteAt(8), 'n');
            CHECK.due("behind a shorter one", x.byteAt(9), NONE);
        });
    }

    /** The seed for which the first draw is behind this x, by the words of the document turned about. */
    private static int seedBefore(int x) {
        // 1103515245 is odd, so it has an inverse by which an int that wraps can be taken back.
        int inverse = 1;
        for (int i = 0; i < 5; i++) {
            inverse *= 2 - 1103515245 * inverse;
        }
        return (x - 12345) * inverse;
    }

    private static void draws() {
        EDGES.terms("for each draw of n x becomes x * 1103515245 + 12345 (an int, wrapping), the draw is (x >>> 8) % n", () -> {
            // x below 0 behind the first draw: (x >>> 8) is not below 0.
            int seed = seedBefore(0xfffffff0);
            CHECK.due("the test's own seed", seed * 1103515245 + 12345, 0xfffffff0);
            for (int hands = 0; hands <= 12; hands++) {
                LidCourt x = Check.told("juror a 9 1 " + hands + " seated;floor f 0 0;case p f;");
                x.drawn(1, seed);
                // 0xffffff % 12 is 3
                CHECK.due("below HANDS he holds: HANDS " + hands, x.now(6), 3 < hands ? 0 : 1);
            }
        });
        EDGES.terms("JUROR by JUROR: a draw of 12: below HANDS he holds, else he does not", () -> {
            for (int seed = 0; seed < 24; seed++) {
                int x = seed;
                int held = 0;
                for (int j = 0; j < 3; j++) {
                    x = x * 1103515245 + 12345;
                    held |= (x >>> 8) % 12 < 6 ? 1 << j : 0;
                }
                LidCourt y = Check.told("juror a 9 1 6 seated;juror b 9 1 6 seated;juror c 9 1 6 seated;floor f 0 0;case p f;");
                y.hold(0);
                y.hold(1);
                y.hold(2);
                y.drawn(1, seed);
                CHECK.due("tried by seed " + seed, y.now(6), held == 7 ? 0 : 1);
                CHECK.due("who dropped by seed " + seed, y.trial(0, 3), held == 7 ? 0 : 7 ^ held);
                CHECK.due("who HELD ON by seed " + seed, y.trial(0, 4), held == 7 ? 0 : held);
                CHECK.due("nobody holds behind the DAY", y.now(2), 0);
            }
        });
        EDGES.terms("a draw of all CASES (none: no draw): it is tried, if it can be", () -> {
            dueDrawn("juror a 9 1 0 seated;juror b 9 1 12 seated;", new int[] {0, 12}, 0);
            dueDrawn("juror a 9 1 0 seated;juror b 9 1 12 seated;floor f 0 0;case p f;", new int[] {0, 12}, 1);
            dueDrawn("juror a 9 1 0 seated;juror b 9 1 12 seated;floor f 0 0;case p f;case q f;case r f;case s f;case t f;", new int[] {0, 12}, 5);
            LidCourt on = Check.told("juror a 9 1 0 seated;floor f 0 0;case p f;case q f;");
            on.tryCase(0);
            on.drawn(1, 3);
            CHECK.due("a CASE was tried on this DAY: it can't be", on.now(6), 1);
            LidCourt nobody = Check.told("juror a 9 1 0;floor f 0 0;case p f;");
            CHECK.due("nobody sits: DAYS go", nobody.drawn(60, 3), 60);
            CHECK.due("nothing is tried", nobody.now(6), 0);
        });
        EDGES.terms("a draw of 6: 0: a draw of all JURORS: that one's dents are beaten out; then the DAY.", () -> {
            // a alone sits and drops; by 60 seeds his dent stays or is beaten out on the same DAY.
            int beaten = 0;
            for (int seed = 0; seed < 60; seed++) {
                int x = seed;
                for (int i = 0; i < 2; i++) {
                    x = x * 1103515245 + 12345;
                }
                x = x * 1103515245 + 12345;
                boolean out = (x >>> 8) % 6 == 0;
                LidCourt y = Check.told("juror a 9 1 0 seated;floor f 0 0;case p f;");
                y.drawn(1, seed);
                CHECK.due("dents by seed " + seed, y.now(5), out ? 0 : 1);
                CHECK.due("dropped once", y.juror(0, 6), 1);
                CHECK.due("DAY", y.now(0), 1);
                CHECK.due("not on this DAY", y.now(7), 0);
                beaten += out ? 1 : 0;
            }
            CHECK.due("both come", beaten > 0 && beaten < 60, true);
        });
    }

    /** Draws 60 DAYS by the words: who has HANDS 0 drops, who has 12 holds; all that sit have like RINGS. */
    private static void dueDrawn(String court, int[] hands, int cases) {
        for (int seed = -3; seed <= 3; seed++) {
            int x = seed;
            int tried = 0;
            int dents = 0;
            for (int day = 0; day < 60; day++) {
                for (int j = 0; j < hands.length; j++) {
                    x = x * 1103515245 + 12345;
                }
                if (cases > 0) {
                    x = x * 1103515245 + 12345;
                    int c = (x >>> 8) % cases;
                    if ((tried >> c & 1) == 0) {
                        tried |= 1 << c;
                        dents++;
                    }
                }
                x = x * 1103515245 + 12345;
                if ((x >>> 8) % 6 == 0) {
                    x = x * 1103515245 + 12345;
                    dents = (x >>> 8) % hands.length == 0 ? 0 : dents;
                }
                LidCourt y = Check.told(court);
                CHECK.due("drawn(" + (day + 1) + ", " + seed + ")", y.drawn(day + 1, seed), day + 1);
                CHECK.due("FREE", y.now(3), tried);
                CHECK.due("dents", y.now(5), dents);
                CHECK.due("trials", y.now(6), Integer.bitCount(tried));
            }
        }
    }

    private static void drawnAndOdds() {
        EDGES.promise(39, "n (1 to 60) DAYS DRAWN by a seed: how many went by; NONE: not as told, no JURORS.", () -> {
            LidCourt x = Check.told(COURT);
            for (int n : new int[] {0, -1, 61, 400, Integer.MIN_VALUE, Integer.MAX_VALUE}) {
                CHECK.due("drawn(" + n + ", 1)", x.drawn(n, 1), NONE);
            }
            CHECK.due("DAY", x.now(0), 0);
            CHECK.due("none is undone", x.undo(), NONE);
            CHECK.due("drawn(1, 1)", x.drawn(1, 1), 1);
            CHECK.due("drawn(60, 1)", x.drawn(60, 1), 60);
            CHECK.due("DAY", x.now(0), 61);
            CHECK.due("any seed", x.drawn(1, Integer.MIN_VALUE), 1);
            CHECK.due("any seed", x.drawn(1, Integer.MAX_VALUE), 1);
            CHECK.due("no JURORS", Check.told("floor f 0 0;case p f;").drawn(1, 1), NONE);
            CHECK.due("an empty COURT", new LidCourt().drawn(60, 1), NONE);
            CHECK.due("no CASES", Check.told("juror a 1 1 0;").drawn(60, 1), 60);
            LidCourt near = onDay(COURT, 399);
            CHECK.due("one is left", near.drawn(60, 1), 1);
            CHECK.due("DAY", near.now(0), 400);
            String before = Check.allThatIsSo(near);
            CHECK.due("none is left", near.drawn(60, 1), 0);
            CHECK.dueText("all stays", Check.allThatIsSo(near), before);
            CHECK.due("not as told, on DAY 400 too", near.drawn(61, 1), NONE);
            LidCourt less = onDay(COURT, 340);
            CHECK.due("60 are left", less.drawn(60, 1), 60);
        });
        EDGES.promise(40, "Of n (1 to 30) seeds x, x and 1, .. by how many a CASE is FREE behind 20 DAYS DRAWN from now on; NONE: no such ones, no JURORS.", () -> {
            String court = "juror a 10 5 6 seated;juror b 15 6 6 seated;floor f 4 5;case p f;case q f;case r f;case s f;one 2;";
            for (int seed : new int[] {0, 5, -15, Integer.MAX_VALUE - 3, Integer.MIN_VALUE}) {
                int free = 0;
                LidCourt x = Check.told(court);
                for (int n = 1; n <= 30; n++) {
                    LidCourt y = Check.told(court);
                    y.drawn(20, seed + n - 1);
                    free += y.trial(0, 1) == 1 ? 1 : 0;
                    CHECK.due("odds(0, " + n + ", " + seed + ")", x.odds(0, n, seed), free);
                }
                CHECK.due("all stays", x.now(0) + x.now(5) + x.now(6), 0);
                CHECK.due("odds() is not undone", x.undo(), NONE);
            }
            // Who nearly always holds on: whether it is tried on the 20th DAY, or the 21st, counts by some seeds.
            String held = "juror a 10 5 11 seated;floor f 4 5;case p f;";
            for (int seed = 0; seed < 200; seed++) {
                LidCourt y = Check.told(held);
                y.drawn(20, seed);
                CHECK.due("odds(0, 1, " + seed + ")", Check.told(held).odds(0, 1, seed), y.trial(0, 1) == 1 ? 1 : 0);
            }
            LidCourt x = Check.told(court);
            for (int n : new int[] {0, -1, 31, 60, Integer.MIN_VALUE, Integer.MAX_VALUE}) {
                CHECK.due("odds(0, " + n + ", 1)", x.odds(0, n, 1), NONE);
            }
            for (int far : FAR) {
                CHECK.due("odds(" + far + ", 1, 1)", x.odds(far, 1, 1), NONE);
            }
            CHECK.due("odds(4, 1, 1)", x.odds(4, 1, 1), NONE);
            CHECK.due("no JURORS", Check.told("floor f 0 0;case p f;").odds(0, 1, 1), NONE);
            LidCourt sure = Check.told("juror a 10 5 0 seated;floor f 4 5;case p f;");
            CHECK.due("sure", sure.odds(0, 30, 1), 30);
            sure.tryCase(0);
            CHECK.due("FREE already", sure.odds(0, 30, 1), 30);
            LidCourt over = onDay("juror a 10 5 0 seated;floor f 4 5;case p f;", 400);
            CHECK.due("all DAYS are over", over.odds(0, 30, 1), 0);
            LidCourt last = onDay("juror a 10 5 0 seated;floor f 4 5;case p f;", 399);
            CHECK.due("one DAY is left", last.odds(0, 30, 1), 30);
        });
    }

    private static void books() {
        EDGES.promise(41, "The tape is a BOOK: it is judged, all staying as it is (lives 0), or lived as far as it is not WRONG (1)", () -> {
            String text = "c sits;a holds;try p;day 2;b holds;a sits;c rises;";
            LidCourt judged = Check.told(COURT);
            String before = Check.allThatIsSo(judged);
            CHECK.due("book(0)", Check.book(judged, 0, text), 5);
            CHECK.dueText("all stays as it is", Check.allThatIsSo(judged), before);
            CHECK.due("none is undone", judged.undo(), NONE);
            LidCourt lived = Check.told(COURT);
            CHECK.due("book(1)", Check.book(lived, 1, text), 5);
            LidCourt done = Check.told(COURT);
            done.sit(2);
            done.hold(0);
            done.tryCase(0);
            done.days(2);
            done.hold(1);
            CHECK.dueText("as far as it is not WRONG", Check.allThatIsSo(lived), Check.allThatIsSo(done));
            CHECK.due("book(0) from then on", Check.book(lived, 0, "b drops;appeal p;b holds;b sits;"), 3);
            CHECK.due("book(0) is judged from now on each time", Check.book(lived, 0, "b drops;appeal p;b holds;b sits;"), 3);
        });
        EDGES.promise(41, "the LINE that is WRONG; NONE: none; -2 less the place of a FAULT; -1000: another lives (the tape stays).", () -> {
            LidCourt x = Check.told(COURT);
            CHECK.due("the first LINE", Check.book(x, 0, "a sits;"), 0);
            CHECK.due("the last of 40", Check.book(x, 0, "day 1;".repeat(39) + "a sits;"), 39);
            CHECK.due("none of 40", Check.book(x, 0, "day 1;".repeat(40)), NONE);
            CHECK.due("no LINE", Check.book(x, 1, ""), NONE);
            CHECK.due("a FAULT at 0", Check.book(x, 1, "x"), -2);
            CHECK.due("a FAULT at 400", Check.book(x, 1, " ".repeat(401)), -402);
            CHECK.due("a FAULT behind what is WRONG", Check.book(x, 1, "a sits;day 0;"), -13);
            CHECK.due("nothing was lived", x.now(0), 0);
            CHECK.due("nothing of a longer one is left", Check.book(x, 0, "day 1;a sits;"), 1);
            CHECK.due("nothing of a longer one is left", Check.book(x, 0, "day 1;"), NONE);
            CHECK.due("LINES", x.told(1), 1);
            Check.lay(x, "day 5;");
            for (int lives : new int[] {-1, 2, 3, -1000, Integer.MIN_VALUE, Integer.MAX_VALUE}) {
                CHECK.due("book(" + lives + ")", x.book(lives), -1000);
                CHECK.due("the tape stays", x.count(5), 6);
            }
            CHECK.due("book(1)", x.book(1), NONE);
            CHECK.due("DAY", x.now(0), 5);
        });
    }

    private static void dueTold(LidCourt x, int... want) {
        for (int what = 0; what < 4; what++) {
            CHECK.due("told(" + what + ")", x.told(what), want[what]);
        }
    }

    private static void dueWhy(String text, int line, int why, int day, int free) {
        for (int lives = 0; lives < 2; lives++) {
            LidCourt x = Check.told(COURT);
            CHECK.due("book(" + lives + ") of '" + text + "'", Check.book(x, lives, text), why == 0 ? NONE : line);
            dueTold(x, why, line, day, free);
            CHECK.due("DAY behind book(" + lives + ")", x.now(0), lives == 0 ? 0 : day);
        }
    }

    private static void told() {
        EDGES.promise(42, "0 why it was WRONG (0: it was not; 1 as for sitting, 11 rising, 21 holding, 31 dropping, 41 being beaten, 51 to 53 trying, 61, 62 appealing; 71: fewer DAYS are left), 1 LINES that are not, 2 the DAY then, 3 CASES that are FREE then, as bits.", () -> {
            dueWhy("", 0, 0, 0, 0);
            dueWhy("try q;day 3;", 2, 0, 3, 2);
            dueWhy("day 1;a sits;day 1;", 1, 1, 1, 0);
            dueWhy("c rises;", 0, 11, 0, 0);
            dueWhy("c holds;c holds;", 1, 21, 0, 0);
            dueWhy("c drops;", 0, 31, 0, 0);
            dueWhy("c beaten;", 0, 41, 0, 0);
            dueWhy("try p;try p;", 1, 51, 0, 1);
            dueWhy("try p;try q;", 1, 52, 0, 1);
            dueWhy("a rises;b holds;try q;", 2, 53, 0, 0);
            dueWhy("appeal q;", 0, 61, 0, 0);
            dueWhy("try q;appeal q;", 1, 62, 0, 2);
            dueWhy("a holds;try q;appeal q;appeal q;", 3, 61, 0, 0);
            String days = "day 60;".repeat(6);
            dueWhy(days + "day 40;", 7, 0, 400, 0);
            dueWhy(days + "day 41;", 6, 71, 360, 0);
            dueWhy(days + "day 40;day 1;", 7, 71, 400, 0);
        });
        EDGES.promise(42, "Of the latest book() that had no FAULT (and was not -1000)", () -> {
            LidCourt x = Check.told(COURT);
            Check.book(x, 0, "day 0;");
            dueTold(x, NONE, NONE, NONE, NONE);
            Check.book(x, 0, "day 7;try q;try p;");
            dueTold(x, 52, 2, 7, 2);
            Check.book(x, 0, "day 0;");
            Check.book(x, 1, "x");
            x.book(2);
            x.days(9);
            x.tryCase(0);
            x.undo();
            Check.court(x, "");
            dueTold(x, 52, 2, 7, 2);
            x.book(0);
            dueTold(x, 0, 0, 0, 0);
        });
        EDGES.promise(42, "NONE: another what, or ahead of any.", () -> {
            LidCourt x = Check.told(COURT);
            dueTold(x, NONE, NONE, NONE, NONE);
            x.book(0);
            dueTold(x, 0, 0, 0, 0);
            CHECK.due("told(4)", x.told(4), NONE);
            for (int far : FAR) {
                CHECK.due("told(" + far + ")", x.told(far), NONE);
            }
        });
    }

    private static void sentences() {
        EDGES.promise(43, "The tape is the SENTENCE now: how many ONES (each not, bracket and other one); -1 less the place of a FAULT: it stays.", () -> {
            LidCourt x = Check.told(COURT);
            CHECK.due("one", Check.sentence(x, "sitting"), 1);
            CHECK.due("'not'", Check.sentence(x, "not sitting"), 2);
            CHECK.due("a bracket", Check.sentence(x, "(sitting)"), 2);
            CHECK.due("'rings'", Check.sentence(x, "rings f a"), 1);
            CHECK.due("a comparison", Check.sentence(x, "pitch<5"), 1);
            CHECK.due("'and', 'or' are none", Check.sentence(x, "not(sitting and holding or dented)"), 5);
            CHECK.due("20", Check.sentence(x, "sitting" + " or dented".repeat(19)), 20);
            CHECK.due("said(-1)", x.said(-1), 2);
            // Nothing of a longer one is left in a shorter one.
            Check.sentence(x, "not not not sitting");
            CHECK.due("not sitting", x.said(-1), 1);
            for (String shorter : new String[] {"not not sitting", "sitting", "sitting or sitting", "sitting"}) {
                Check.sentence(x, shorter);
                CHECK.due("'" + shorter + "' is said of", x.said(-1), 2);
            }
            Check.sentence(x, "(sitting or holding) and not sitting");
            CHECK.due("nobody", x.said(-1), 0);
            Check.sentence(x, "sitting or holding");
            CHECK.due("said(-1)", x.said(-1), 2);
            CHECK.due("a FAULT at 0", Check.sentence(x, ""), -1);
            CHECK.due("a FAULT at 4", Check.sentence(x, "not "), -5);
            CHECK.due("a FAULT behind a whole one", Check.sentence(x, "not sitting)"), -12);
            CHECK.due("it stays", x.said(-1), 2);
        });
        EDGES.promise(44, "JURORS of whom it may be said: how many (k NONE), or the k-th. NONE: there is no SENTENCE, none such.", () -> {
            LidCourt x = Check.told(COURT);
            CHECK.due("no SENTENCE", x.said(-1), NONE);
            CHECK.due("no SENTENCE", x.said(0), NONE);
            Check.sentence(x, "number > 0");
            CHECK.due("how many", x.said(NONE), 2);
            CHECK.due("said(0)", x.said(0), 1);
            CHECK.due("said(1)", x.said(1), 2);
            for (int k : new int[] {2, 3, 10, 32, -2, Integer.MIN_VALUE, Integer.MAX_VALUE}) {
                CHECK.due("said(" + k + ")", x.said(k), NONE);
            }
            Check.sentence(x, "number > 2");
            CHECK.due("of nobody", x.said(-1), 0);
            CHECK.due("said(0)", x.said(0), NONE);
            LidCourt nobody = new LidCourt();
            Check.sentence(nobody, "not sitting");
            CHECK.due("no JURORS", nobody.said(-1), 0);
            CHECK.due("no JURORS", nobody.said(0), NONE);
            StringBuilder ten = new StringBuilder();
            for (int j = 0; j < 10; j++) {
                ten.append("juror j").append((char) ('a' + j)).append(" 5 5 5;");
            }
            LidCourt all = Check.told(ten.toString());
            Check.sentence(all, "not sitting");
            CHECK.due("all ten", all.said(-1), 10);
            CHECK.due("the tenth", all.said(9), 9);
            CHECK.due("no eleventh", all.said(10), NONE);
        });
    }

    private static void images() {
        EDGES.promise(45, "COURT, all that is so and the SENTENCE are kept in place k (0, 1): true; false: no such one.", () -> {
            LidCourt x = Check.told(COURT);
            x.hold(0);
            x.tryCase(0);
            Check.sentence(x, "rings g b");
            String first = Check.allThatIsSo(x);
            for (int k : new int[] {-1, 2, 3, Integer.MIN_VALUE, Integer.MAX_VALUE}) {
                CHECK.due("image(" + k + ")", x.image(k), false);
                CHECK.due("restore(" + k + ")", x.restore(k), false);
            }
            CHECK.due("image(0)", x.image(0), true);
            Check.court(x, "juror z 9 9 9;one 9;dent 9;floor y 9 9;case w y;");
            String second = Check.allThatIsSo(x);
            CHECK.due("image(1)", x.image(1), true);
            CHECK.due("restore(0)", x.restore(0), true);
            CHECK.dueText("as kept in place 0", Check.allThatIsSo(x), first);
            x.appeal(0);
            x.days(60);
            CHECK.due("restore(1)", x.restore(1), true);
            CHECK.dueText("as kept in place 1", Check.allThatIsSo(x), second);
            CHECK.due("restore(0)", x.restore(0), true);
            CHECK.dueText("as kept in place 0, what was done since is not", Check.allThatIsSo(x), first);
            x.days(1);
            CHECK.due("image(0) once more", x.image(0), true);
            String third = Check.allThatIsSo(x);
            x.days(1);
            x.restore(0);
            CHECK.dueText("the latest image is kept", Check.allThatIsSo(x), third);
        });
        EDGES.promise(46, "They are as kept in place k (the tape, and what other calls told last, stays; nothing can be undone): true; false: no such one, or nothing is kept there.", () -> {
            LidCourt x = Check.told(COURT);
            CHECK.due("restore(0), nothing is kept", x.restore(0), false);
            CHECK.due("restore(1), nothing is kept", x.restore(1), false);
            x.image(1);
            CHECK.due("restore(0), nothing is kept there", x.restore(0), false);
            x.days(1);
            CHECK.due("a restore() that is false leaves what can be undone", x.restore(0), false);
            CHECK.due("undo()", x.undo(), 0);
            x.days(1);
            CHECK.due("restore(1)", x.restore(1), true);
            CHECK.due("nothing can be undone", x.undo(), NONE);
            tellAll(x);
            Check.lay(x, "day 3;");
            String told = allTold(x);
            CHECK.due("restore(1)", x.restore(1), true);
            CHECK.dueText("the tape and what was told last stays", allTold(x), told);
            CHECK.due("the tape's bytes, too", x.book(1), NONE);
            CHECK.due("DAY", x.now(0), 3);
            CHECK.due("restore(1), as often as may be", x.restore(1), true);
            CHECK.due("DAY", x.now(0), 0);
        });
    }

    private static void tellAll(LidCourt x) {
        x.agree(0);
        x.jury(0, 2);
        x.panel(0, 1, 0);
        Check.heard(x, 0, 14, 16);
        x.strikes(0, 1);
        x.beats(0);
        x.roll(1);
        Check.book(x, 1, "day 9;try q;a holds;a holds;");
        Check.sentence(x, "pitch <");
    }

    private static String allTold(LidCourt x) {
        StringBuilder all = new StringBuilder();
        all.append(x.agreed()).append(' ').append(x.jurors()).append(' ').append(x.panelled()).append(' ').append(x.surely()).append(' ');
        all.append(x.ask()).append(' ').append(x.struck()).append(' ').append(x.beating()).append(' ').append(x.fault()).append(' ');
        for (int what = 0; what < 4; what++) {
            all.append(x.told(what)).append(' ');
        }
        for (int i = 0; i < 12; i++) {
            all.append(x.byteAt(i)).append(' ');
        }
        return all.append(x.count(5)).toString();
    }

    private static void counts() {
        EDGES.promise(47, "0 JURORS, 1 FLOORS, 2 CASES, 3 'one', 4 'dent', 5 bytes of the tape. NONE for another what.", () -> {
            LidCourt x = Check.told("floor f 0 0;floor g 0 0;case p f;juror a 1 1 0;juror b 1 1 0;juror c 1 1 0;one 20;dent 9;");
            x.feed(0, 0, 0, 0, 0);
            x.end(11);
            int[] counts = {3, 2, 1, 20, 9, 11};
            for (int what = 0; what < 6; what++) {
                CHECK.due("count(" + what + ")", x.count(what), counts[what]);
            }
            for (int what : new int[] {-1, -2, 6, 7, 32, Integer.MIN_VALUE, Integer.MAX_VALUE}) {
                CHECK.due("count(" + what + ")", x.count(what), NONE);
            }
        });
    }

    private static void newCourtsAndThrows() {
        EDGES.terms("A new COURT: DAY 0, nobody holds, no dents, nothing tried, no SENTENCE.", () -> {
            LidCourt x = Check.told(COURT);
            x.days(9);
            x.sit(2);
            x.hold(0);
            x.tryCase(0);
            x.days(1);
            x.hold(2);
            x.tryCase(1);
            Check.sentence(x, "sitting");
            CHECK.due("court()", Check.court(x, COURT), 9);
            CHECK.dueText("all is as in a new object", Check.allThatIsSo(x), Check.allThatIsSo(Check.told(COURT)));
            CHECK.due("DAY", x.now(0), 0);
            CHECK.due("who sits is 'seated'", x.now(1), 3);
            CHECK.due("nobody holds", x.now(2), 0);
            CHECK.due("no dents", x.now(5), 0);
            CHECK.due("nothing tried", x.now(6) + x.now(7) + x.now(3) + x.now(4), 0);
            CHECK.due("no SENTENCE", x.said(-1), NONE);
            CHECK.due("nothing of the old one is undone", x.undo(), NONE);
            Check.court(x, "juror a 9 9 9;juror b 9 9 9;floor f 0 0;floor g 0 0;");
            CHECK.due("nobody is 'seated' any more", x.now(1), 0);
            CHECK.due("'one' is not told", x.count(3), 3);
            CHECK.due("'dent' is not told", x.count(4), 1);
            Check.court(x, "juror z 9 9 9;floor y 0 0;tuned z y 5;");
            Check.court(x, "juror z 9 9 9;floor y 0 0;");
            CHECK.due("nothing is TUNED any more", x.ring(0, 0), 9);
            Check.court(x, "juror z 9 9 9 seated;one 5;dent 5;tuned zz y 5;");
            Check.court(x, "juror z 9 9 9;floor y 0 0;tuned z y 4;one 3;");
            CHECK.due("nothing is left of a COURT with a FAULT: 'seated'", x.now(1), 0);
            CHECK.due("'dent'", x.count(4), 1);
            CHECK.due("LINES", x.fault(), 0);
        });
        EDGES.terms("A call that throws changes nothing.", () -> {
            LidCourt x = Check.told(COURT);
            x.hold(1);
            x.tryCase(0);
            tellAll(x);
            Check.sentence(x, "dented");
            Check.lay(x, "abc");
            x.panel(0, 2, 0);
            String so = Check.allThatIsSo(x);
            x.roll(1);
            String told = allTold(x);
            CHECK.dueNoSuch("juror(3, 0)", () -> x.juror(3, 0));
            CHECK.dueNoSuch("juror(0, 7)", () -> x.juror(0, 7));
            CHECK.dueNoSuch("trial(2, 0)", () -> x.trial(2, 0));
            CHECK.dueNoSuch("trial(0, 5)", () -> x.trial(0, 5));
            CHECK.dueNoSuch("likely(2, 0)", () -> x.likely(2, 0));
            CHECK.dueNoSuch("likely(0, 2)", () -> x.likely(0, 2));
            CHECK.dueNoSuch("panel(2, 1, 0)", () -> x.panel(2, 1, 0));
            CHECK.dueNoSuch("panel(0, 4, 0)", () -> x.panel(0, 4, 0));
            CHECK.dueNoSuch("panel(0, 1, 2)", () -> x.panel(0, 1, 2));
            CHECK.dueText("what was told", allTold(x), told);
            CHECK.dueText("all that is so", Check.allThatIsSo(x), so);
            CHECK.due("what can be undone: hold, try, the BOOK", x.undo(), 2);
        });
    }

    /** The line ahead of the face: 512 calls of one object are answered. */
    private static void manyCalls() {
        LidCourt x = Check.told(COURT);
        // told() has made 9 calls: count, feeds, end, court
        for (int calls = 20; calls < 510; calls += 2) {
            CHECK.due("hold(2) at call " + calls, x.hold(2), 0);
            CHECK.due("drop(2) at call " + calls, x.drop(2), 0);
        }
        CHECK.due("undo() at call 511", x.undo(), 7);
        CHECK.due("now(2) at call 512", x.now(2), 4);
    }
}
