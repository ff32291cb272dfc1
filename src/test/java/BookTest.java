/** Promises 41, 42 and 5: book, told, and the FAULTS of a BOOK. */
public final class BookTest {
    private static final Check CHECK = new Check("BookTest");
    private static final String COURT = "juror a 10 8 3 seated;juror b 12 9 4 seated;juror c 30 2 5;"
        + "floor f 4 3;case p f;case q f;one 2;";

    public static void main(String[] args) {
        faults();
        manyLines();
        bytes();
        judged();
        lived();
        wrongOnes();
        faultsLeave();
        CHECK.close();
    }

    private static void bad(String text, int kind, int at) {
        LidCourt x = Check.told(COURT);
        CHECK.due("book(1) of '" + text + "'", Check.book(x, 1, text), -2 - at);
        CHECK.due("fault() of '" + text + "'", x.fault(), kind);
        CHECK.due("bytes behind '" + text + "'", x.count(5), 0);
        CHECK.due("who sits behind '" + text + "'", x.now(1), 3);
        CHECK.due("undo() behind '" + text + "'", x.undo(), -1);
        CHECK.due("told(0) behind '" + text + "'", x.told(0), -1);
    }

    private static void faults() {
        bad("x", 3, 0);
        bad("c", 1, 1);
        bad("c sits", 1, 6);
        bad("c sits ", 1, 7);
        bad("c;", 1, 1);
        bad("c sitting;", 1, 2);
        bad("c try;", 1, 2);
        bad("c sits sits;", 1, 7);
        bad("c sits;;", 1, 7);
        bad("sits c;", 1, 0);
        bad("juror a 1 1 1;", 1, 0);
        bad("3;", 1, 0);
        bad("c sits;B sits;", 1, 7);
        bad("p sits;", 3, 0);
        bad("f sits;", 3, 0);
        bad("c sits;d sits;", 3, 7);
        bad("try a;", 3, 4);
        bad("try f;", 3, 4);
        bad("try z;", 3, 4);
        bad("try;", 1, 3);
        bad("try day;", 1, 4);
        bad("try 1;", 1, 4);
        bad("appeal a;", 3, 7);
        bad("appeal;", 1, 6);
        bad("day;", 1, 3);
        bad("day a;", 1, 4);
        bad("day 0;", 2, 4);
        bad("day 61;", 2, 4);
        bad("day 1000;", 1, 4);
        bad("day 1 1;", 1, 6);
        bad("day 1", 1, 5);
        bad("c sits;c beat;", 1, 9);
    }

    private static void manyLines() {
        LidCourt x = Check.told(COURT);
        String forty = "c sits;c rises;".repeat(20);
        CHECK.due("40 LINES", Check.book(x, 0, forty), -1);
        CHECK.due("told(1)", x.told(1), 40);
        bad(forty + "c sits;", 4, forty.length());
        bad(forty + " try p;", 4, forty.length() + 1);
        bad(forty + "day 99;", 4, forty.length());
        bad(forty + "appeal", 4, forty.length());
        bad(forty + "z sits;", 3, forty.length());
        bad(forty + "p sits;", 3, forty.length());
        bad(forty + "sits;", 1, forty.length());
        bad(forty + "9;", 1, forty.length());
        CHECK.due("40 LINES and blanks", Check.book(x, 0, forty + " \n"), -1);
    }

    private static void bytes() {
        LidCourt x = Check.told(COURT);
        CHECK.due("400 bytes", Check.book(x, 0, "c sits;" + " ".repeat(393)), -1);
        bad("c sits;" + " ".repeat(394), 1, 400);
        bad("c sits" + " ".repeat(400), 1, 400);
        bad(" ".repeat(394) + "c sits;", 1, 400);
        bad(" ".repeat(399) + "c sits;", 1, 400);
        bad(" ".repeat(399) + "zz sits;", 3, 399);
        bad(" ".repeat(399) + "abcdefgh", 1, 399);
        bad(" ".repeat(395) + "day 61;", 2, 399);
        bad(" ".repeat(900), 1, 400);
    }

    private static void judged() {
        LidCourt x = Check.told(COURT);
        for (int what = -1; what < 5; what++) {
            CHECK.due("told(" + what + ") ahead of any", x.told(what), -1);
        }
        x.hold(0);
        CHECK.due("an empty BOOK", Check.book(x, 0, ""), -1);
        dueTold(x, 0, 0, 0, 0);
        CHECK.due("book(0)", Check.book(x, 0, "a drops; b holds; try p; day 7; try q; c sits;"), -1);
        dueTold(x, 0, 6, 7, 1);
        CHECK.due("book(0) that is WRONG", Check.book(x, 0, "b holds; a drops; try p; c sits; try q; day 60;"), 4);
        dueTold(x, 52, 4, 0, 1);
        CHECK.due("all stays: who sits", x.now(1), 3);
        CHECK.due("all stays: who holds", x.now(2), 1);
        CHECK.due("all stays: trials", x.now(6), 0);
        CHECK.due("all stays: DAY", x.now(0), 0);
        CHECK.due("only hold() can be undone", x.undo(), 0);
    }

    private static void dueTold(LidCourt x, int... want) {
        for (int what = 0; what < 4; what++) {
            CHECK.due("told(" + what + ")", x.told(what), want[what]);
        }
        CHECK.due("told(4)", x.told(4), -1);
        CHECK.due("told(-1)", x.told(-1), -1);
    }

    private static void lived() {
        LidCourt x = Check.told(COURT);
        CHECK.due("book(1)", Check.book(x, 1, "c sits;a holds;b holds;try p;day 2;c rises;a beaten;try q;"), 6);
        dueTold(x, 41, 6, 2, 1);
        CHECK.due("DAY", x.now(0), 2);
        CHECK.due("who sits", x.now(1), 3);
        CHECK.due("FREE", x.now(3), 1);
        CHECK.due("what is behind the WRONG LINE is not lived", x.now(6), 1);
        CHECK.due("c's dents", x.juror(2, 5), 1);
        CHECK.due("undo() as one", x.undo(), 0);
        CHECK.due("DAY", x.now(0), 0);
        CHECK.due("told() stays", x.told(2), 2);
        CHECK.due("book(1) whole", Check.book(x, 1, "day 60;day 1;"), -1);
        CHECK.due("DAY", x.now(0), 61);
    }

    private static void wrongOnes() {
        dueWrong("a sits;", 0, 1);
        dueWrong("c rises;", 0, 11);
        dueWrong("a holds;a holds;", 1, 21);
        dueWrong("a drops;", 0, 31);
        dueWrong("a beaten;", 0, 41);
        dueWrong("try p;day 1;try p;", 2, 51);
        dueWrong("try p;try q;", 1, 52);
        dueWrong("a holds;b holds;try q;", 2, 53);
        dueWrong("appeal p;", 0, 61);
        dueWrong("try p;appeal p;", 1, 62);
        dueWrong("day 60;day 60;day 60;day 60;day 60;day 60;day 40;day 1;", 7, 71);
        dueWrong("day 60;day 60;day 60;day 60;day 60;day 60;day 41;", 6, 71);
        LidCourt x = Check.told(COURT);
        Check.book(x, 1, "day 60;day 60;day 60;day 60;day 60;day 60;day 41;");
        CHECK.due("DAYS that are not all left do not go", x.now(0), 360);
    }

    private static void dueWrong(String text, int line, int why) {
        for (int lives = 0; lives < 2; lives++) {
            LidCourt x = Check.told(COURT);
            CHECK.due("book(" + lives + ") of '" + text + "'", Check.book(x, lives, text), line);
            CHECK.due("told(0) of '" + text + "'", x.told(0), why);
            CHECK.due("told(1) of '" + text + "'", x.told(1), line);
            CHECK.due("fault() of '" + text + "'", x.fault(), 0);
        }
    }

    private static void faultsLeave() {
        LidCourt x = Check.told(COURT);
        Check.book(x, 0, "a sits;");
        CHECK.due("a FAULT", Check.book(x, 0, "day 61;"), -6);
        CHECK.due("told(0) of the latest without a FAULT", x.told(0), 1);
        Check.lay(x, "day 1;");
        CHECK.due("book(2)", x.book(2), -1000);
        CHECK.due("book(-1)", x.book(-1), -1000);
        CHECK.due("the tape stays", x.count(5), 6);
        CHECK.due("fault() stays", x.fault(), 2);
        CHECK.due("told(0) stays", x.told(0), 1);
        CHECK.due("book(0)", x.book(0), -1);
        CHECK.due("fault() is gone", x.fault(), 0);
        CHECK.due("told(0)", x.told(0), 0);
        CHECK.due("DAY stays", x.now(0), 0);
    }
}
