/** Promises 43, 44 and 5: sentence, said, and the FAULTS of a SENTENCE. */
public final class SentenceTest {
    private static final Check CHECK = new Check("SentenceTest");
    private static final String COURT = "juror a 10 8 3 seated;juror b 12 9 4 seated;juror c 30 2 5;juror d 11 20 0;"
        + "floor f 4 3;floor g 0 0;case p f;tuned c g 13;one 2;dent 1;";

    public static void main(String[] args) {
        saidOf();
        byWhatIsNow();
        joined();
        faults();
        manyOnes();
        within();
        bytes();
        stays();
        CHECK.close();
    }

    private static void said(String text, int ones, int... who) {
        LidCourt x = Check.told(COURT);
        x.hold(1);
        x.hold(3);
        x.sit(2);
        x.rise(1);
        x.tryCase(0);
        // a and c sit and have a dent, b and d hold
        CHECK.due("sentence() of '" + text + "'", Check.sentence(x, text), ones);
        CHECK.due("fault() of '" + text + "'", x.fault(), 0);
        CHECK.due("bytes behind '" + text + "'", x.count(5), 0);
        CHECK.due("said(-1) of '" + text + "'", x.said(-1), who.length);
        for (int k = 0; k < who.length; k++) {
            CHECK.due("said(" + k + ") of '" + text + "'", x.said(k), who[k]);
        }
        CHECK.due("said(" + who.length + ") of '" + text + "'", x.said(who.length), -1);
        CHECK.due("said(-2) of '" + text + "'", x.said(-2), -1);
        CHECK.due("said(most) of '" + text + "'", x.said(Integer.MAX_VALUE), -1);
    }

    private static void saidOf() {
        said("sitting", 1, 0, 2);
        said("holding", 1, 1, 3);
        said("dented", 1, 0, 2);
        said("pitch < 12", 1, 0, 3);
        said("pitch = 10", 1, 0);
        said("pitch > 11", 1, 1, 2);
        said("length<8", 1, 2);
        said("length=20", 1, 3);
        said("length > 8", 1, 1, 3);
        said("dents < 1", 1, 1, 3);
        said("dents = 1", 1, 0, 2);
        said("dents > 1", 1);
        said("number = 0", 1, 0);
        said("number > 1", 1, 2, 3);
        said("number < 999", 1, 0, 1, 2, 3);
        said("number < 000", 1);
        // on g: a 9, b 12, c 12 (tuned to 13, a dent), d 11; 'one' is 2
        said("rings g d", 1, 0, 1, 2, 3);
        said("rings g a", 1, 0, 3);
        said("rings g c", 1, 1, 2, 3);
        said("rings f c", 1, 2);
    }

    private static void byWhatIsNow() {
        LidCourt x = Check.told(COURT);
        CHECK.due("said(-1) ahead of any", x.said(-1), -1);
        CHECK.due("said(0) ahead of any", x.said(0), -1);
        Check.sentence(x, "sitting and not dented");
        CHECK.due("said(-1)", x.said(-1), 2);
        x.sit(3);
        CHECK.due("said(2)", x.said(2), 3);
        x.hold(0);
        x.tryCase(0);
        CHECK.due("said(-1)", x.said(-1), 1);
        CHECK.due("said(0)", x.said(0), 0);
        x.undo();
        CHECK.due("said(-1)", x.said(-1), 3);
        LidCourt nobody = new LidCourt();
        CHECK.due("sentence() in an empty COURT", Check.sentence(nobody, "not sitting"), 2);
        CHECK.due("said(-1) of nobody", nobody.said(-1), 0);
        CHECK.due("said(0) of nobody", nobody.said(0), -1);
    }

    private static void joined() {
        said("not sitting", 2, 1, 3);
        said("not not sitting", 3, 0, 2);
        said("(sitting)", 2, 0, 2);
        said("not(sitting)", 3, 1, 3);
        said("sitting and pitch>10", 2, 2);
        said("sitting or pitch=12", 2, 0, 1, 2);
        // 'and' goes ahead of 'or'
        said("number=0 or number=1 and sitting", 3, 0);
        said("sitting and number=1 or number=0", 3, 0);
        said("(number=0 or number=1) and holding", 4, 1);
        said("holding and (number=0 or number=1)", 4, 1);
        // 'not' goes ahead of both
        said("not number=0 and not number=1", 4, 2, 3);
        said("not (number=0 or number=1)", 4, 2, 3);
        said("not sitting or number=0", 3, 0, 1, 3);
        said("number=0 or number=1 or number=3", 3, 0, 1, 3);
        said("sitting\nand\ndented and number<3 and not number=0", 5, 2);
    }

    private static void bad(String text, int kind, int at) {
        LidCourt x = Check.told(COURT);
        CHECK.due("sentence() of '" + text + "'", Check.sentence(x, text), -1 - at);
        CHECK.due("fault() of '" + text + "'", x.fault(), kind);
        CHECK.due("bytes behind '" + text + "'", x.count(5), 0);
        CHECK.due("said(-1) behind '" + text + "'", x.said(-1), -1);
    }

    private static void faults() {
        bad("", 1, 0);
        bad("  ", 1, 2);
        bad("x", 1, 0);
        bad("a", 1, 0);
        bad("3", 1, 0);
        bad("sits", 1, 0);
        bad("seated", 1, 0);
        bad("sitting sitting", 1, 8);
        bad("sitting;", 1, 7);
        bad("sitting)", 1, 7);
        bad("sitting and", 1, 11);
        bad("sitting or ", 1, 11);
        bad("and sitting", 1, 0);
        bad("sitting and or sitting", 1, 12);
        bad("not", 1, 3);
        bad("not and", 1, 4);
        bad("(", 1, 1);
        bad("()", 1, 1);
        bad("(sitting", 1, 8);
        bad("(sitting;", 1, 8);
        bad("(sitting))", 1, 9);
        bad("pitch", 1, 5);
        bad("pitch 3", 1, 6);
        bad("pitch (", 1, 6);
        bad("pitch ;", 1, 6);
        bad("pitch = ", 1, 8);
        bad("pitch = a", 1, 8);
        bad("pitch = 1000", 1, 8);
        bad("pitch == 1", 1, 7);
        bad("pitch <= 1", 1, 7);
        bad("tune = 1", 1, 0);
        bad("rings", 1, 5);
        bad("rings f", 1, 7);
        bad("rings a f", 3, 6);
        bad("rings f f", 3, 8);
        bad("rings f p", 3, 8);
        bad("rings f z", 3, 8);
        bad("rings z a", 3, 6);
        bad("rings p a", 3, 6);
        bad("rings f sitting", 1, 8);
        bad("rings pitch a", 1, 6);
        bad("rings f 1", 1, 8);
        bad("Sitting", 1, 0);
        bad("sitting and Sitting", 1, 12);
    }

    private static void manyOnes() {
        String twelve = "dented" + " or dented".repeat(11);
        String nineteen = twelve + " or(not(dented)and(not dented))";
        LidCourt x = Check.told(COURT);
        CHECK.due("12 ONES", Check.sentence(x, twelve), 12);
        CHECK.due("19 ONES", Check.sentence(x, nineteen), 19);
        CHECK.due("20 ONES", Check.sentence(x, nineteen + "or dented"), 20);
        bad(nineteen + "or dented or dented", 4, nineteen.length() + 13);
        bad(nineteen + "or dented or(", 4, nineteen.length() + 12);
        bad(nineteen + "or not dented", 4, nineteen.length() + 7);
        bad(nineteen + "or dented or rings", 4, nineteen.length() + 13);
        bad(nineteen + "or dented or", 1, nineteen.length() + 12);
        bad(nineteen + "or dented or zz", 1, nineteen.length() + 13);
        bad(nineteen + "or dented or or", 1, nineteen.length() + 13);
    }

    private static void within() {
        LidCourt x = Check.told(COURT);
        CHECK.due("8 within one another", Check.sentence(x, "not not not not not not not dented"), 8);
        CHECK.due("8 within one another", Check.sentence(x, "(((((((dented)))))))"), 8);
        CHECK.due("8 within, twice", Check.sentence(x, "((not((((dented))))))or(((((((dented)))))))"), 16);
        bad("not not not not not not not not dented", 4, 32);
        bad("((((((((dented))))))))", 4, 8);
        bad("(((((((dented and not dented)))))))", 4, 22);
        bad("(((((((((", 4, 8);
        bad("((((((((", 1, 8);
        bad("((((((((zz", 1, 8);
        bad("not(not(not(not(dented and dented or dented", 4, 16);
    }

    private static void bytes() {
        LidCourt x = Check.told(COURT);
        CHECK.due("200 bytes", Check.sentence(x, "dented" + " ".repeat(194)), 1);
        bad("dented" + " ".repeat(195), 1, 200);
        bad(" ".repeat(194) + "dented ", 1, 200);
        bad(" ".repeat(194) + "sitting", 1, 200);
        bad(" ".repeat(194) + "sittingg", 1, 194);
        bad(" ".repeat(194) + "sitted7", 1, 194);
        bad("dented" + " ".repeat(190) + "or ( ( (", 1, 200);
        bad(" ".repeat(192) + "rings zz", 3, 198);
        bad(" ".repeat(193) + "rings zz", 3, 199);
        bad(" ".repeat(940), 1, 200);
    }

    private static void stays() {
        LidCourt x = Check.told(COURT);
        Check.sentence(x, "number > 1");
        CHECK.due("a FAULT", Check.sentence(x, "sitting or"), -11);
        CHECK.due("the SENTENCE stays", x.said(0), 2);
        CHECK.due("fault()", x.fault(), 1);
        CHECK.due("another SENTENCE", Check.sentence(x, "sitting"), 1);
        CHECK.due("fault() is gone", x.fault(), 0);
        CHECK.due("said(-1)", x.said(-1), 2);
        CHECK.due("said(0)", x.said(0), 0);
        Check.court(x, "x");
        CHECK.due("the SENTENCE stays by a FAULT of a COURT", x.said(0), 0);
        Check.court(x, COURT);
        CHECK.due("no SENTENCE in a new COURT", x.said(-1), -1);
    }
}
