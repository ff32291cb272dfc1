/** Promises 4 and 5: court and fault, with all TOKENS and FAULTS of a COURT. */
public final class CourtTextTest {
    private static final Check CHECK = new Check("CourtTextTest");
    private static final String NAMES = "abcdefghijk";

    public static void main(String[] args) {
        asTold();
        tokens();
        cannotCome();
        numbers();
        names();
        tooMany();
        bytes();
        staysByFault();
        newCourt();
        CHECK.close();
    }

    private static void good(String text, int lines) {
        LidCourt x = new LidCourt();
        CHECK.due("court() of '" + text + "'", Check.court(x, text), lines);
        CHECK.due("fault() of '" + text + "'", x.fault(), 0);
        CHECK.due("bytes behind '" + text + "'", x.count(5), 0);
    }

    private static void bad(String text, int kind, int at) {
        LidCourt x = new LidCourt();
        CHECK.due("court() of '" + text + "'", Check.court(x, text), -1 - at);
        CHECK.due("fault() of '" + text + "'", x.fault(), kind);
        CHECK.due("bytes behind '" + text + "'", x.count(5), 0);
    }

    private static void asTold() {
        good("", 0);
        good(" \n ", 0);
        good("one 0;", 1);
        good("one 20;dent 9;", 2);
        good("dent 0 ; one 3 ;\n", 2);
        good("juror a 1 1 0;", 1);
        good("juror a 60 20 12 seated;", 1);
        good("floor f 0 0;floor g 20 20;", 2);
        good("floor f 0 0;case c f;case d f;", 3);
        good("juror a 1 1 0;floor f 0 0;tuned a f 0;", 3);
        good("juror a 1 1 0;juror b 1 1 0;floor f 0 0;floor g 0 0;tuned a f 60;tuned a g 1;tuned b f 1;tuned b g 1;", 8);
        LidCourt x = Check.told("juror abcdefg 007 020 00 seated;floor z 1 2;case y z;");
        CHECK.due("pitch", x.juror(0, 0), 7);
        CHECK.due("length", x.juror(0, 1), 20);
        CHECK.due("hands", x.juror(0, 2), 0);
        CHECK.due("sits", x.juror(0, 3), 1);
        CHECK.dueText("roll", Check.roll(x, 0), "y is open");
    }

    private static void tokens() {
        good("one\n3;dent\n\n 4\n;", 2);
        bad("one 3;\t", 1, 6);
        bad("one 3;.", 1, 6);
        bad("one3;", 1, 0);
        bad("one 3a;", 1, 4);
        bad("One 3;", 1, 0);
        bad("one 0003;", 1, 4);
        bad("juror abcdefgh 1 1 0;", 1, 6);
        bad("juror a1 1 1 0;", 1, 6);
        bad("juror 1a 1 1 0;", 1, 6);
        bad("one -3;", 1, 4);
        bad("one 3\r;", 1, 5);
        bad("one 3;;", 1, 6);
        bad("one 3;\0", 1, 6);
    }

    private static void cannotCome() {
        bad("one", 1, 3);
        bad("one 3", 1, 5);
        bad("one 3 \n ", 1, 8);
        bad("one ;", 1, 4);
        bad("one one;", 1, 4);
        bad("3;", 1, 0);
        bad("(", 1, 0);
        bad("lid a;", 1, 0);
        bad("seated;", 1, 0);
        bad("try a;", 1, 0);
        bad("juror 3 1 1 1;", 1, 6);
        bad("juror a b 1 1;", 1, 8);
        bad("juror a 1 1;", 1, 11);
        bad("juror a 1 1 1 1;", 1, 14);
        bad("juror a 1 1 1 sitting;", 1, 14);
        bad("juror a 1 1 1 seated seated;", 1, 21);
        bad("juror a 1 1 1 seated", 1, 20);
        bad("juror a seated;", 1, 8);
        bad("floor f 1;", 1, 9);
        bad("floor f 1 2 3;", 1, 12);
        bad("floor f 0 0;case c;", 1, 18);
        bad("floor f 0 0;case c 1;", 1, 19);
        bad("floor f 0 0;case c one;", 1, 19);
        bad("juror a 1 1 1;floor f 0 0;tuned a f;", 1, 35);
        bad("juror a 1 1 1;floor f 0 0;tuned a 3;", 1, 34);
        for (String word : PlainCourt.WORDS) {
            bad("floor f 0 0;case " + word + " f;", 1, 17);
        }
    }

    private static void numbers() {
        bad("one 21;", 2, 4);
        bad("dent 10;", 2, 5);
        bad("juror a 0 1 0;", 2, 8);
        bad("juror a 61 1 0;", 2, 8);
        bad("juror a 1 0 0;", 2, 10);
        bad("juror a 1 21 0;", 2, 10);
        bad("juror a 1 1 13;", 2, 12);
        bad("floor f 21 0;", 2, 8);
        bad("floor f 0 21;", 2, 10);
        bad("juror a 1 1 0;floor f 0 0;tuned a f 61;", 2, 36);
        bad("one 999;", 2, 4);
    }

    private static void names() {
        bad("juror a 1 1 0;juror a 1 1 0;", 3, 20);
        bad("juror a 1 1 0;floor a 1 1;", 3, 20);
        bad("floor f 1 1;case f f;", 3, 17);
        bad("floor f 1 1;case c f;juror c 1 1 1;", 3, 27);
        bad("floor f 1 1;case c c;", 3, 19);
        bad("case c f;", 3, 7);
        bad("case c f;floor f 0 0;", 3, 7);
        bad("juror a 1 1 0;case c a;", 3, 21);
        bad("juror a 1 1 0;floor f 0 0;tuned f f 1;", 3, 32);
        bad("juror a 1 1 0;floor f 0 0;tuned a a 1;", 3, 34);
        bad("juror a 1 1 0;floor f 0 0;tuned b f 1;", 3, 32);
        bad("juror a 1 1 0;floor f 0 0;tuned a g 1;", 3, 34);
        bad("juror a 1 1 0;floor f 0 0;tuned a f 1;tuned a f 2;", 3, 46);
        bad("juror a 1 1 0;floor f 0 0;tuned a f 1;tuned a f", 3, 46);
        // Small letters and digits go on together: these are no TOKENS, not the NAMES with which they begin or end.
        bad("juror a 1 1 0;floor f 0 0;tuned a f 1;tuned a f1 2;", 1, 46);
        bad("juror a 1 1 0;floor f 0 0;tuned a f 1;tuned a 1f 2;", 1, 46);
        bad("juror a 1 1 0;floor f 0 0;tuned a f 1;tuned a1 f 2;", 1, 44);
        bad("juror a 1 1 0;floor f 0 0;tuned a f 1;tuned1 a f 2;", 1, 38);
        bad("juror a 1 1 0;juror a1 1 1 0;", 1, 20);
        bad("juror a 1 1 0;floor 1a 1 1;", 1, 20);
        bad("floor f 1 1;case c f0;", 1, 19);
        bad("one 3;one3 3;", 1, 6);
        bad("one 3;1one 3;", 1, 6);
        bad("one 3;one 3;", 3, 6);
        bad("one 3;one;", 3, 6);
        bad("dent 1;one 3;dent 1;", 3, 13);
    }

    private static String lines(String before, String behind, int many) {
        StringBuilder text = new StringBuilder();
        for (int i = 0; i < many; i++) {
            text.append(before).append(NAMES.charAt(i)).append(behind);
        }
        return text.toString();
    }

    private static void tooMany() {
        String jurors = lines("juror ", " 1 1 0;", 10);
        good(jurors, 10);
        bad(jurors + "juror k 1 1 0;", 4, jurors.length());
        bad(jurors + "juror", 4, jurors.length());
        bad(jurors + "\n juror a 99 a a;", 4, jurors.length() + 2);
        String floors = lines("floor ", " 1 1;", 4);
        good(floors, 4);
        bad(floors + "floor z 1 1;", 4, floors.length());
        String cases = "floor z 1 1;" + lines("case ", " z;", 5);
        good(cases, 6);
        bad(cases + "case y z;", 4, cases.length());
    }

    private static void bytes() {
        good("one 3;" + " ".repeat(894), 1);
        bad("one 3;" + " ".repeat(895), 1, 900);
        bad("one 3;" + " ".repeat(934), 1, 900);
        bad("one 3" + " ".repeat(895), 1, 900);
        bad(" ".repeat(894) + "one 3;;", 1, 900);
        bad(" ".repeat(893) + "one 3;;", 1, 899);
        // TOKENS that begin ahead of byte 900 are read whole: here an 8-letter run, a word of 7, a number of 4 digits.
        bad(" ".repeat(893) + "juror abcdefgh", 1, 899);
        bad(" ".repeat(893) + "juror abcdefg", 1, 900);
        bad(" ".repeat(895) + "one 21;", 2, 899);
        bad(" ".repeat(895) + "one 20;", 1, 900);
        bad(" ".repeat(895) + "one 2000;", 1, 899);
        bad(" ".repeat(896) + "one 99;", 1, 900);
        bad(" ".repeat(890) + "one 3;on" + "e 3;", 3, 896);
        bad("x" + " ".repeat(930), 1, 0);
        bad(" ".repeat(940), 1, 900);
    }

    private static void staysByFault() {
        LidCourt x = Check.told("juror a 9 1 0;floor f 1 1;case c f;one 7;");
        x.sit(0);
        Check.sentence(x, "sitting");
        CHECK.due("court() with a FAULT", Check.court(x, "one 3;one 4;"), -7);
        CHECK.due("fault()", x.fault(), 3);
        CHECK.due("jurors", x.count(0), 1);
        CHECK.due("one", x.count(3), 7);
        CHECK.due("who sits", x.now(1), 1);
        CHECK.due("said", x.said(-1), 1);
        CHECK.due("undo()", x.undo(), 0);
    }

    private static void newCourt() {
        LidCourt x = Check.told("juror a 9 1 0 seated;juror b 9 1 0 seated;floor f 1 1;case c f;one 7;dent 2;");
        Check.sentence(x, "sitting");
        x.days(3);
        x.hold(1);
        x.tryCase(0);
        CHECK.due("court() of a FAULT", Check.court(x, "x"), -1);
        CHECK.due("court()", Check.court(x, "floor f 1 1;case c f;juror a 9 1 0;"), 3);
        CHECK.due("fault() is gone", x.fault(), 0);
        for (int what = 0; what < 8; what++) {
            CHECK.due("now(" + what + ")", x.now(what), 0);
        }
        CHECK.due("one", x.count(3), 3);
        CHECK.due("dent", x.count(4), 1);
        CHECK.due("dropped", x.juror(0, 6), 0);
        CHECK.due("tried on", x.trial(0, 2), -1);
        CHECK.due("who dropped", x.trial(0, 3), 0);
        CHECK.due("who held on", x.trial(0, 4), 0);
        CHECK.due("no SENTENCE", x.said(-1), -1);
        CHECK.due("nothing to undo", x.undo(), -1);
    }
}
