/** What the document tells of the edges of TOKENS, COURTS, BOOKS, SENTENCES and FAULTS, sentence by sentence. */
public final class EdgesOfTextsTest {
    private static final Edges EDGES = new Edges("EdgesOfTextsTest");
    private static final Check CHECK = EDGES.check;
    /** Where a BOOK and a SENTENCE are read: two JURORS, a FLOOR, a CASE. */
    private static final String COURT = "juror a 10 5 0 seated;juror b 12 5 0;floor f 0 0;case p f;";
    private static final int MOST_NUMBER = 999;
    /** As many ONES in few bytes, so that a 21st one comes ahead of byte 200. */
    private static final String EIGHTEEN = "not dented" + " or not dented".repeat(8);

    public static void main(String[] args) {
        tokens();
        courtLines();
        names();
        manyOfASort();
        books();
        sentences();
        faultsAlongTheText();
        faultsByKind();
        CHECK.close();
    }

    // A text's FAULT is at the mark ^, which is no part of the text.

    private static String unmarked(String text) {
        return text.replace("^", "");
    }

    private static LidCourt court(String text, int lines) {
        LidCourt x = new LidCourt();
        CHECK.due("court() of '" + text + "'", Check.court(x, text), lines);
        CHECK.due("fault() of '" + text + "'", x.fault(), 0);
        return x;
    }

    private static void badCourt(int kind, String marked) {
        LidCourt x = new LidCourt();
        CHECK.due("court() of '" + marked + "'", Check.court(x, unmarked(marked)), -1 - marked.indexOf('^'));
        CHECK.due("fault() of '" + marked + "'", x.fault(), kind);
    }

    private static void book(String text) {
        LidCourt x = Check.told(COURT);
        CHECK.due("book(0) of '" + text + "' is no FAULT", Check.book(x, 0, text) >= -1, true);
        CHECK.due("fault() of '" + text + "'", x.fault(), 0);
    }

    private static void badBook(int kind, String marked) {
        LidCourt x = Check.told(COURT);
        CHECK.due("book(0) of '" + marked + "'", Check.book(x, 0, unmarked(marked)), -2 - marked.indexOf('^'));
        CHECK.due("fault() of '" + marked + "'", x.fault(), kind);
    }

    private static LidCourt sentence(String text, int ones) {
        LidCourt x = Check.told(COURT);
        CHECK.due("sentence() of '" + text + "'", Check.sentence(x, text), ones);
        CHECK.due("fault() of '" + text + "'", x.fault(), 0);
        return x;
    }

    private static void badSentence(int kind, String marked) {
        LidCourt x = Check.told(COURT);
        CHECK.due("sentence() of '" + marked + "'", Check.sentence(x, unmarked(marked)), -1 - marked.indexOf('^'));
        CHECK.due("fault() of '" + marked + "'", x.fault(), kind);
    }

    private static void said(String text, int... who) {
        LidCourt x = Check.told(COURT);
        Check.sentence(x, text);
        CHECK.due("said(-1) of '" + text + "'", x.said(-1), who.length);
        for (int k = 0; k < who.length; k++) {
            CHECK.due("said(" + k + ") of '" + text + "'", x.said(k), who[k]);
        }
    }

    private static void dueBits(LidCourt x, String text, int who) {
        Check.sentence(x, text);
        int bits = 0;
        for (int k = 0; k < x.said(-1); k++) {
            bits |= 1 << x.said(k);
        }
        CHECK.due("'" + text + "' is said of", bits, who);
    }

    private static String blanks(int many) {
        return " ".repeat(many);
    }

    private static void tokens() {
        EDGES.terms("TOKENS of all texts, with blanks (32, 10) between them or not", () -> {
            for (int sign = 0; sign < 256; sign++) {
                if (sign == 32 || sign == 10) {
                    court("one 3;" + (char) sign + "dent 2;", 2);
                } else if (sign != '^') {
                    badCourt(1, "one 3;^" + (char) sign + "dent 2;");
                }
            }
            LidCourt x = new LidCourt();
            CHECK.due("court() with the tests' own mark", Check.court(x, "one 3;^dent 2;"), -7);
            court("\n \njuror\na\n1 \n 1\n\n0\n;\n \n", 1);
            sentence("((dented)and(not(dents<1)))or(dents>5)", 9);
            sentence(" ( ( dented ) and ( not ( dents < 1 ) ) ) or ( dents > 5 ) ", 9);
            book("a\nholds\n;day\n1\n;");
            book("a holds;day 1;");
        });
        EDGES.terms("WORDS: small letters, 1 to 7", () -> {
            for (int letters = 1; letters <= 7; letters++) {
                court("juror " + "zzzzzzz".substring(0, letters) + " 1 1 0;", 1);
            }
            badCourt(1, "juror ^zzzzzzzz 1 1 0;");
            badCourt(1, "juror ^" + "z".repeat(40) + " 1 1 0;");
            badCourt(1, "juror ^A 1 1 0;");
            badCourt(1, "juror z^A 1 1 0;");
            badCourt(1, "juror ^` 1 1 0;");
            badCourt(1, "juror ^{ 1 1 0;");
            court("juror a 1 1 0;juror z 1 1 0;", 2);
        });
        EDGES.terms("NUMBERS: 1 to 3 digits", () -> {
            CHECK.due("7", court("one 7;", 1).count(3), 7);
            CHECK.due("07", court("one 07;", 1).count(3), 7);
            CHECK.due("007", court("one 007;", 1).count(3), 7);
            badCourt(1, "one ^0007;");
            badCourt(1, "one ^0000000000000000000007;");
            badCourt(1, "one ^4294967296;");
            badCourt(1, "one ^;");
            badCourt(1, "one ^/;");
            badCourt(1, "one ^:;");
            badCourt(1, "one 1^.;");
            court("one 09;", 1);
            said("pitch < 999", 0, 1);
            said("pitch > 000", 0, 1);
            badSentence(1, "pitch < ^1000");
        });
        EDGES.terms("; ; < = > ( ) .", () -> {
            for (String sign : new String[] {";", "<", "=", ">", "(", ")", "."}) {
                badCourt(1, "^" + sign);
                badCourt(1, "one ^" + sign);
                badCourt(1, "juror ^" + sign + " 1 1 0;");
                badBook(1, "^" + sign);
                badBook(1, "day ^" + sign);
                badBook(1, "a ^" + sign);
                badSentence(1, "dented ^" + sign);
                badSentence(1, "pitch < ^" + sign);
                badSentence(1, "rings ^" + sign);
            }
            for (String sign : new String[] {"<", "=", ">", "(", ")", "."}) {
                badCourt(1, "one 3^" + sign);
                badBook(1, "day 3^" + sign);
            }
            for (String sign : new String[] {";", "<", "=", ">", ")", "."}) {
                badSentence(1, "^" + sign);
                badSentence(1, "not ^" + sign);
            }
            for (String sign : new String[] {";", "(", ")", "."}) {
                badSentence(1, "pitch^" + sign);
            }
        });
        EDGES.terms("A WORD, NUMBER goes on as long as small letters and digits do; what is not as told is no TOKEN", () -> {
            badCourt(1, "^one3;");
            badCourt(1, "one ^3dent 1;");
            badCourt(1, "juror ^a1 1 1 0;");
            badCourt(1, "juror ^1a 1 1 0;");
            badCourt(1, "juror a 1 1 ^0seated;");
            badCourt(1, "juror a 1 1 0 ^seated1;");
            badCourt(1, "juror a 1 1 0 ^seateds;");
            badCourt(1, "floor f 0 0;case c ^f0;");
            badBook(1, "^a1 holds;");
            badBook(1, "a ^holds1;");
            badBook(1, "^day1;");
            badBook(1, "day ^1a;");
            badBook(1, "try ^p1;");
            badSentence(1, "^dented1");
            badSentence(1, "dents>^1or dented");
            badSentence(1, "rings ^f1 a");
            badSentence(1, "rings f ^a1");
        });
    }

    /** A NUMBER is as told from the least to the most; any other is FAULT 2 at it. */
    private static void dueRange(String before, String behind, int least, int most, int lines) {
        for (int n = 0; n <= MOST_NUMBER; n++) {
            if (n >= least && n <= most) {
                court(before + n + behind, lines);
            } else {
                badCourt(2, before + "^" + n + behind);
            }
        }
    }

    private static void courtLines() {
        EDGES.terms("A COURT is a text of at most 900 bytes: { LINE ; }", () -> {
            court("", 0);
            court("\n", 0);
            court(blanks(900), 0);
            court(blanks(894) + "one 3;", 1);
            court("one 3;" + blanks(894), 1);
            badCourt(1, blanks(895) + "one 3^;");
            badCourt(1, "one 3;" + blanks(894) + "^ ");
            badCourt(1, blanks(900) + "^ ");
            badCourt(1, "^;");
            badCourt(1, "one 3;^;");
            badCourt(1, "one 3^");
            badCourt(1, "one 3 ^dent 1;");
        });
        EDGES.terms("'juror' NAME PITCH LENGTH HANDS [ 'seated' ] (1 to 60; 1 to 20; 0 to 12)", () -> {
            dueRange("juror a ", " 1 0;", 1, 60, 1);
            dueRange("juror a 1 ", " 0;", 1, 20, 1);
            dueRange("juror a 1 1 ", ";", 0, 12, 1);
            dueRange("juror a 1 1 ", " seated;", 0, 12, 1);
            LidCourt x = court("juror a 1 20 0;juror b 60 1 12 seated;", 2);
            CHECK.due("PITCH", x.juror(0, 0), 1);
            CHECK.due("PITCH", x.juror(1, 0), 60);
            CHECK.due("LENGTH", x.juror(0, 1), 20);
            CHECK.due("LENGTH", x.juror(1, 1), 1);
            CHECK.due("HANDS", x.juror(0, 2), 0);
            CHECK.due("HANDS", x.juror(1, 2), 12);
            CHECK.due("without 'seated'", x.juror(0, 3), 0);
            CHECK.due("'seated'", x.juror(1, 3), 1);
            badCourt(1, "juror a 1 1 0 seated ^seated;");
            badCourt(1, "juror a 1 1 ^seated;");
            badCourt(1, "juror a 1 1 ^;");
            badCourt(1, "juror a 1 1 0 ^0;");
            badCourt(1, "juror ^;");
        });
        EDGES.terms("'floor' NAME TUNE DULL (0 to 20 each)", () -> {
            dueRange("floor f ", " 0;", 0, 20, 1);
            dueRange("floor f 0 ", ";", 0, 20, 1);
            LidCourt x = court("juror a 1 20 0;floor f 0 20;floor g 20 0;", 3);
            CHECK.due("TUNE 0", x.ring(0, 0), 1);
            CHECK.due("TUNE 20", x.ring(0, 1), 21);
            CHECK.due("DULL 20", x.lasts(0, 0), 1);
            CHECK.due("DULL 0", x.lasts(0, 1), 20);
            badCourt(1, "floor f 0^;");
            badCourt(1, "floor f 0 0 ^0;");
        });
        EDGES.terms("'case' NAME FLOOR", () -> {
            LidCourt x = court("floor f 0 0;floor g 0 0;case p g;case q f;case r g;", 5);
            CHECK.due("FLOOR of p", x.trial(0, 0), 1);
            CHECK.due("FLOOR of q", x.trial(1, 0), 0);
            CHECK.due("FLOOR of r", x.trial(2, 0), 1);
            badCourt(1, "floor f 0 0;case p^;");
            badCourt(1, "floor f 0 0;case p f ^f;");
            badCourt(1, "floor f 0 0;case ^;");
        });
        EDGES.terms("'tuned' JUROR FLOOR N (0 to 60: that one's PITCH there without dents; each two once)", () -> {
            String two = "juror a 9 1 0;juror b 8 1 0;floor f 3 0;floor g 4 0;";
            dueRange(two + "tuned a f ", ";", 0, 60, 5);
            LidCourt x = court(two + "tuned a f 0;tuned b g 60;", 6);
            CHECK.due("a on f", x.ring(0, 0), 0);
            CHECK.due("a on g is not tuned", x.ring(0, 1), 13);
            CHECK.due("b on f is not tuned", x.ring(1, 0), 11);
            CHECK.due("b on g", x.ring(1, 1), 60);
            court(two + "tuned a f 1;tuned a g 1;tuned b f 1;tuned b g 1;", 8);
            badCourt(3, two + "tuned a f 1;tuned a g 1;tuned b f 1;tuned b g 1;tuned a ^f 1;");
            badCourt(3, two + "tuned b g 0;tuned b ^g 0;");
            String ten = lines("juror j", " 1 1 0;", 10) + lines("floor f", " 0 0;", 4);
            StringBuilder all = new StringBuilder(ten);
            for (int i = 0; i < 40; i++) {
                all.append("tuned j").append((char) ('a' + i / 4)).append(" f").append((char) ('a' + i % 4)).append(' ').append(20 + i).append(';');
            }
            LidCourt y = court(all.toString(), 54);
            for (int i = 0; i < 40; i++) {
                CHECK.due("JUROR " + i / 4 + " on FLOOR " + i % 4, y.ring(i / 4, i % 4), 20 + i);
                badCourt(3, all + "tuned j" + (char) ('a' + i / 4) + " ^f" + (char) ('a' + i % 4) + " 1;");
            }
            badCourt(1, two + "tuned ^;");
            badCourt(1, two + "tuned a ^;");
            badCourt(1, two + "tuned a f ^;");
            badCourt(1, two + "tuned a f 1 ^1;");
        });
        EDGES.terms("'one' N (0 to 20; once; 3 without)", () -> {
            dueRange("one ", ";", 0, 20, 1);
            CHECK.due("without", court("dent 7;", 1).count(3), 3);
            CHECK.due("one 0", court("one 0;", 1).count(3), 0);
            CHECK.due("one 20", court("one 20;", 1).count(3), 20);
            badCourt(3, "one 3;^one 3;");
            badCourt(3, "one 0;dent 1;^one 0;");
        });
        EDGES.terms("'dent' N (0 to 9; once; 1 without)", () -> {
            dueRange("dent ", ";", 0, 9, 1);
            CHECK.due("without", court("one 7;", 1).count(4), 1);
            CHECK.due("dent 0", court("dent 0;", 1).count(4), 0);
            CHECK.due("dent 9", court("dent 9;", 1).count(4), 9);
            badCourt(3, "dent 1;^dent 1;");
            badCourt(3, "dent 0;one 1;^dent 0;");
        });
    }

    private static void names() {
        String[] words = {"juror", "seated", "floor", "case", "tuned", "one", "dent", "sits", "rises", "holds", "drops", "beaten",
            "try", "appeal", "day", "or", "and", "not", "sitting", "holding", "dented", "rings", "pitch", "length", "dents", "number"};
        EDGES.terms("NAME: a WORD, none of those told here, in a BOOK or a SENTENCE", () -> {
            for (String word : words) {
                badCourt(1, "juror ^" + word + " 1 1 0;");
                badCourt(1, "floor ^" + word + " 0 0;");
                badCourt(1, "floor f 0 0;case ^" + word + " f;");
                badCourt(1, "floor f 0 0;case p ^" + word + ";");
                badCourt(1, "juror a 1 1 0;floor f 0 0;tuned ^" + word + " f 0;");
                badCourt(1, "juror a 1 1 0;floor f 0 0;tuned a ^" + word + " 0;");
                badBook(1, "try ^" + word + ";");
                badBook(1, "appeal ^" + word + ";");
                badSentence(1, "rings ^" + word + " a");
                badSentence(1, "rings f ^" + word);
                // A letter more or less is another WORD, so a NAME, unless it is told itself.
                dueNameUnlessTold(word.substring(0, word.length() - 1), words);
                dueNameUnlessTold(word.substring(1), words);
                dueNameUnlessTold(word + "s", words);
                dueNameUnlessTold("a" + word, words);
            }
            badCourt(1, "juror ^1 1 1 1;");
            badCourt(1, "floor ^1 1 1;");
            badCourt(1, "floor f 0 0;case ^1 f;");
            badCourt(1, "floor f 0 0;case p ^1;");
            badCourt(1, "juror ^( 1 1 1;");
            court("juror name 1 1 0;juror sign 1 1 0;floor hands 0 0;floor tune 0 0;case dull tune;case n hands;", 6);
        });
        EDGES.terms("told once. 10 JURORS", () -> {
            String all = "juror a 1 1 0;floor f 0 0;case p f;";
            for (String name : new String[] {"a", "f", "p"}) {
                badCourt(3, all + "juror ^" + name + " 1 1 0;");
                badCourt(3, all + "floor ^" + name + " 0 0;");
                badCourt(3, all + "case ^" + name + " f;");
            }
            court(all + "juror aa 1 1 0;floor ff 0 0;case pp f;", 6);
        });
    }

    private static void dueNameUnlessTold(String name, String[] words) {
        boolean told = name.length() > 7;
        for (String word : words) {
            told |= word.equals(name);
        }
        if (told) {
            badCourt(1, "juror ^" + name + " 1 1 0;");
        } else {
            court("juror " + name + " 1 1 0;", 1);
        }
    }

    private static String lines(String before, String behind, int many) {
        StringBuilder text = new StringBuilder();
        for (int i = 0; i < many; i++) {
            text.append(before).append((char) ('a' + i)).append(behind);
        }
        return text.toString();
    }

    private static void manyOfASort() {
        EDGES.terms("10 JURORS, 4 FLOORS, 5 CASES at most; all numbered from 0 each.", () -> {
            String jurors = lines("juror j", " 1 1 0;", 10);
            String floors = lines("floor f", " 1 1;", 4);
            String cases = lines("case c", " fa;", 5);
            LidCourt x = court(jurors + floors + cases, 19);
            CHECK.due("JURORS", x.count(0), 10);
            CHECK.due("FLOORS", x.count(1), 4);
            CHECK.due("CASES", x.count(2), 5);
            badCourt(4, jurors + "^juror k 1 1 0;");
            badCourt(4, floors + "^floor k 1 1;");
            badCourt(4, floors + cases + "^case k fa;");
            badCourt(4, jurors + floors + cases + "^juror k 1 1 0;");
            badCourt(4, jurors + floors + cases + "^floor k 1 1;");
            badCourt(4, jurors + floors + cases + "^case k fa;");
            court(jurors + floors + cases + "tuned ja fa 1;one 1;dent 1;", 22);
            LidCourt y = court("floor f 1 1;juror a 10 1 0;case p f;floor g 2 1;case q g;juror b 20 1 0;juror c 30 1 0;", 7);
            CHECK.due("JUROR 0", y.juror(0, 0), 10);
            CHECK.due("JUROR 1", y.juror(1, 0), 20);
            CHECK.due("JUROR 2", y.juror(2, 0), 30);
            CHECK.due("FLOOR 0", y.ring(0, 0), 11);
            CHECK.due("FLOOR 1", y.ring(0, 1), 12);
            CHECK.due("CASE 0", y.trial(0, 0), 0);
            CHECK.due("CASE 1", y.trial(1, 0), 1);
        });
    }

    private static void books() {
        EDGES.terms("A BOOK is a text of at most 400 bytes: { LINE ; }, 40 at most", () -> {
            book("");
            book(blanks(400));
            book(blanks(394) + "day 1;");
            book("day 1;" + blanks(394));
            badBook(1, blanks(395) + "day 1^;");
            badBook(1, "day 1;" + blanks(394) + "^ ");
            badBook(1, blanks(400) + "^ ");
            book("a sits;".repeat(40));
            badBook(4, "a sits;".repeat(40) + "^a sits;");
            badBook(4, "day 1;".repeat(40) + "\n ^day 1;");
            badBook(4, "day 1;".repeat(40) + "^try p;");
            badBook(4, "day 1;".repeat(40) + "^appeal p;");
            badBook(1, "^;");
            badBook(1, "day 1;^;");
            badBook(1, "day 1^");
        });
        EDGES.terms("JUROR ( 'sits' | 'rises' | 'holds' | 'drops' | 'beaten' )", () -> {
            String[] all = {"sits", "rises", "holds", "drops", "beaten"};
            for (String act : all) {
                book("a " + act + ";");
                book("b " + act + ";");
                badBook(1, "^" + act + ";");
                badBook(3, "^f " + act + ";");
                badBook(3, "^p " + act + ";");
                badBook(3, "^zz " + act + ";");
                badBook(1, "a " + act + " ^a;");
            }
            badBook(1, "a ^;");
            badBook(1, "a ^sitting;");
            badBook(1, "a ^try p;");
            badBook(1, "a ^b sits;");
            badBook(1, "a ^1;");
        });
        EDGES.terms("'try' CASE | 'appeal' CASE | 'day' N (1 to 60).", () -> {
            for (int n = 0; n <= MOST_NUMBER; n++) {
                if (n >= 1 && n <= 60) {
                    book("day " + n + ";");
                } else {
                    badBook(2, "day ^" + n + ";");
                }
            }
            book("try p;appeal p;");
            badBook(3, "try ^a;");
            badBook(3, "try ^f;");
            badBook(3, "appeal ^b;");
            badBook(3, "appeal ^zz;");
            badBook(1, "try ^;");
            badBook(1, "appeal ^1;");
            badBook(1, "day ^;");
            badBook(1, "day ^a;");
            badBook(1, "try p ^p;");
            badBook(1, "day 1 ^1;");
        });
    }

    private static void sentences() {
        EDGES.terms("A SENTENCE is a text of at most 200 bytes", () -> {
            sentence("dented" + blanks(194), 1);
            sentence(blanks(194) + "dented", 1);
            badSentence(1, "dented" + blanks(194) + "^ ");
            badSentence(1, blanks(194) + "dented^;");
            badSentence(1, blanks(200) + "^ ");
            badSentence(1, "^");
            badSentence(1, blanks(200) + "^");
        });
        EDGES.terms("COND: ALL { 'or' ALL }. ALL: ONE { 'and' ONE }. ONE: 'not' ONE | ( COND )", () -> {
            badSentence(1, "^or dented");
            badSentence(1, "^and dented");
            badSentence(1, "dented or ^");
            badSentence(1, "dented and ^");
            badSentence(1, "dented or ^and dented");
            badSentence(1, "dented ^dented");
            badSentence(1, "dented ^not dented");
            badSentence(1, "dented^(dented)");
            badSentence(1, "not ^");
            badSentence(1, "not ^or");
            badSentence(1, "(^)");
            badSentence(1, "(dented^");
            badSentence(1, "dented^)");
            badSentence(1, "(dented)^)");
            badSentence(1, "dented^;");
            said("number=0 or number=1 and dented", 0);
            said("(number=0 or number=1) and dented");
            said("not number=0 or number=0", 0, 1);
            said("not (number=0 or number=0)", 1);
            // Of both ways each may be: 'and', 'or' by their left and by their right.
            said("number=0 and number=0", 0);
            said("number=0 and number=1");
            said("number=0 and number<2", 0);
            said("number<2 and number=0", 0);
            said("number=0 or number=0", 0);
            said("number=0 or number=1", 0, 1);
            said("number=0 or number>1", 0);
            said("number>1 or number=0", 0);
            said("number>1 or number>1");
            said("not number>1", 0, 1);
            said("not number<2");
            said("not not number=0", 0);
        });
        EDGES.terms("'sitting' | 'holding' | 'dented'", () -> {
            LidCourt x = Check.told("juror a 9 9 0 seated;juror b 9 9 0 seated;juror c 9 9 0;juror d 9 9 0;floor f 0 0;case p f;dent 0;");
            x.hold(1);
            x.hold(3);
            x.tryCase(0);
            dueBits(x, "sitting", 3);
            dueBits(x, "holding", 2 | 8);
            dueBits(x, "dented", 1);
            dueBits(x, "sitting and holding", 2);
            dueBits(x, "not sitting and not holding and not dented", 4);
            x.rise(0);
            dueBits(x, "dented and not sitting", 1);
            x.beat(0);
            dueBits(x, "dented", 0);
            x.days(1);
            dueBits(x, "holding", 0);
        });
        EDGES.terms("'rings' FLOOR JUROR (on that FLOOR the two are one ring; himself, too)", () -> {
            LidCourt x = Check.told("juror a 10 1 0;juror b 13 1 0;juror c 14 1 0;juror d 7 1 0;juror e 6 1 0;floor f 0 0;");
            Check.sentence(x, "rings f a");
            CHECK.due("a rings 10, b 13, d 7: three apart at most", x.said(-1), 3);
            CHECK.due("himself, too", x.said(0), 0);
            CHECK.due("above", x.said(1), 1);
            CHECK.due("below", x.said(2), 3);
            LidCourt y = Check.told("juror a 10 1 0;juror b 11 1 0;floor f 0 0;one 0;");
            Check.sentence(y, "rings f b");
            CHECK.due("by 0 himself alone", y.said(-1), 1);
            CHECK.due("himself", y.said(0), 1);
            badSentence(1, "rings ^");
            badSentence(1, "rings f ^");
            badSentence(3, "rings ^a f");
            badSentence(3, "rings ^p a");
            badSentence(3, "rings f ^f");
            badSentence(3, "rings f ^p");
            badSentence(3, "rings f ^zz");
        });
        EDGES.terms("SIGN NUMBER (as told, without FLOOR and dents; how many; his number). SIGN: < = >.", () -> {
            said("pitch < 10");
            said("pitch < 11", 0);
            said("pitch < 12", 0);
            said("pitch < 13", 0, 1);
            said("pitch = 9");
            said("pitch = 10", 0);
            said("pitch = 12", 1);
            said("pitch > 9", 0, 1);
            said("pitch > 10", 1);
            said("pitch > 12");
            said("length < 5");
            said("length = 5", 0, 1);
            said("length > 5");
            said("length > 4", 0, 1);
            said("number < 0");
            said("number = 0", 0);
            said("number = 1", 1);
            said("number > 0", 1);
            said("number > 1");
            said("number < 2", 0, 1);
            said("dents = 0", 0, 1);
            said("dents > 0");
            LidCourt x = Check.told("juror a 10 5 0 seated;floor f 20 4;case p f;dent 9;tuned a f 50;");
            x.tryCase(0);
            Check.sentence(x, "pitch = 10 and length = 5 and dents = 1 and dented");
            CHECK.due("as told, without FLOOR and dents", x.said(-1), 1);
            badSentence(1, "pitch ^5");
            badSentence(1, "pitch <^= 5");
            badSentence(1, "pitch ^(");
            badSentence(1, "pitch ^;");
            badSentence(1, "pitch = ^");
            badSentence(1, "pitch = ^a");
            badSentence(1, "pitch = ^pitch");
        });
        EDGES.terms("It is said of JURORS.", () -> {
            // The SENTENCE is said of each JUROR by himself, of no FLOOR or CASE, whether he sits or not.
            LidCourt x = Check.told("floor f 0 0;floor g 9 0;juror a 10 1 0;case p f;juror b 13 2 0 seated;case q g;juror c 14 3 0;");
            CHECK.due("sentence()", Check.sentence(x, "sitting or not sitting"), 3);
            CHECK.due("all JURORS", x.said(-1), 3);
            CHECK.due("the last one", x.said(2), 2);
            CHECK.due("no one behind", x.said(3), LidCourt.NONE);
            CHECK.due("sentence()", Check.sentence(x, "rings f a and not sitting"), 3);
            CHECK.due("a alone", x.said(-1), 1);
            CHECK.due("a", x.said(0), 0);
            x.rise(1);
            CHECK.due("b, too: as all is now", x.said(-1), 2);
            CHECK.due("b", x.said(1), 1);
            CHECK.due("a FLOOR is no JUROR", Check.sentence(x, "rings f g"), -1 - 8);
            CHECK.due("FAULT", x.fault(), 3);
        });
        EDGES.terms("20 ONES, 8 within one another.", () -> {
            sentence("dented" + " or dented".repeat(19), 20);
            // A 21st plain one has no room within 200 bytes: the text is over ahead of it.
            badSentence(1, "dented" + " or dented".repeat(19) + " or^");
            badSentence(1, "dented" + " or dented".repeat(19) + " or ^dented");
            sentence("dented" + " and dented".repeat(15) + " or not not not dented", 20);
            sentence(EIGHTEEN + " or(dented)", 20);
            said("dented" + " or dented".repeat(18) + " or sitting", 0);
            said("sitting" + " or dented".repeat(19), 0);
            said(EIGHTEEN + " and not sitting", 0, 1);
            said("sitting and(" + EIGHTEEN + ")", 0);
            said("not(" + EIGHTEEN + ")");
            badSentence(4, EIGHTEEN + " or dented or dented or ^dented");
            badSentence(4, EIGHTEEN + " and dented and dented and ^dented");
            badSentence(4, EIGHTEEN + " or not not ^dented");
            badSentence(4, EIGHTEEN + " or((^dented))");
            badSentence(4, EIGHTEEN + " or(dented or ^dented)");
            sentence("(((((((dented)))))))", 8);
            badSentence(4, "((((((((^dented))))))))");
            sentence("not ".repeat(7) + "dented", 8);
            badSentence(4, "not ".repeat(8) + "^dented");
            badSentence(4, "not ".repeat(8) + "^not dented");
            badSentence(4, "((((((((^(");
            sentence("(((((((dented)))))))or(((((((dented)))))))", 16);
            sentence("(((((((dented and dented or dented)))))))", 10);
        });
    }

    private static void faultsAlongTheText() {
        EDGES.terms("FAULTS, the first along the text", () -> {
            badCourt(2, "one ^21;one 3;");
            badCourt(3, "one 3;^one 21;");
            badCourt(2, "juror a ^61 21 13;");
            badCourt(2, "juror a 60 ^21 13;");
            badCourt(3, "juror a 1 1 0;juror ^a 61 1 0;");
            badCourt(4, lines("juror j", " 1 1 0;", 10) + "^juror ja 61 1 0;");
            badCourt(3, "floor f 0 0;case ^f zz;");
            badBook(2, "day ^61;zz sits;");
            badBook(3, "^zz sits;day 61;");
            badSentence(3, "rings ^zz zz");
            badSentence(3, "rings f ^zz or");
        });
        EDGES.terms("of one TOKEN the least", () -> {
            // No TOKEN (1) is no NUMBER that is not as told (2) and no NAME that was told (3).
            badCourt(1, "one ^9999;");
            badCourt(1, "juror a 1 1 0;juror ^a1 1 1 0;");
            badCourt(1, "one 3;^one1 3;");
            String tuned = "juror a 1 1 0;floor f 0 0;tuned a f 1;tuned ";
            badCourt(1, tuned + "a ^f1 1;");
            badCourt(1, tuned + "a ^1f 1;");
            badCourt(1, tuned + "a ^1;");
            badCourt(1, tuned + "a ^;");
            badCourt(1, tuned + "a ^");
            badCourt(3, tuned + "a ^a 1;");
            badCourt(3, tuned + "^f f 1;");
            // A 41st LINE (4) that begins with what can't come (1), or with what was not told (3).
            String forty = "day 1;".repeat(40);
            badBook(1, forty + "^sits;");
            badBook(1, forty + "^;");
            badBook(1, forty + "^1;");
            badBook(1, forty + "^a1 sits;");
            badBook(1, forty + "^Day 1;");
            badBook(3, forty + "^zz sits;");
            badBook(3, forty + "^p sits;");
            // A 21st ONE, a ninth within (4), that is none (1).
            badSentence(1, EIGHTEEN + " or dented or dented^;");
            badSentence(1, EIGHTEEN + " or not dented or ^and");
            badSentence(1, EIGHTEEN + " or not not ^a");
            badSentence(1, EIGHTEEN + " or not not ^");
            badSentence(1, "((((((((^)");
            badSentence(1, "((((((((^sits");
            badSentence(1, "((((((((^dented1");
        });
    }

    private static void faultsByKind() {
        EDGES.terms("1 no TOKEN, or one that can't come (at it; the end: how many bytes there are", () -> {
            badCourt(1, "^.");
            badCourt(1, "one 3;  ^!");
            badCourt(1, "one^");
            badCourt(1, "one  \n^");
            badCourt(1, "juror a 1 1 0 seated^");
            badCourt(1, "one 3   ^");
            badBook(1, "day^");
            badBook(1, "a^");
            badBook(1, "a sits \n ^");
            badSentence(1, "^");
            badSentence(1, "   ^");
            badSentence(1, "not^");
            badSentence(1, "pitch =  ^");
        });
        EDGES.terms("the most bytes told, if there are more and no FAULT is ahead: TOKENS that begin ahead of it are read whole)", () -> {
            badCourt(1, "^x" + blanks(939));
            badCourt(1, blanks(899) + "^x ");
            badCourt(1, blanks(900) + "^x");
            badCourt(2, blanks(895) + "one ^21;");
            badCourt(1, blanks(895) + "one 2^0;");
            badCourt(1, blanks(895) + "one ^2000;");
            badCourt(3, "one 3;" + blanks(893) + "^one 3;");
            badCourt(1, "one 3;" + blanks(893) + "^oneone 3;");
            badCourt(1, "one 3;" + blanks(894) + "^one 3;");
            badCourt(1, blanks(893) + "juror ^zzzzzzzz 1 1 1;");
            badCourt(1, blanks(893) + "juror z^zzzzzz 1 1 1;");
            badCourt(1, "one 3" + blanks(895) + "^;");
            badBook(1, blanks(400) + "^x");
            badBook(2, blanks(395) + "day ^61;");
            badBook(1, blanks(395) + "day 6^0;");
            badBook(3, blanks(399) + "^zz sits;");
            badBook(1, blanks(398) + "a ^beaten;");
            badBook(4, "day 1;".repeat(40) + blanks(159) + "^day 1;");
            badBook(1, "day 1;".repeat(40) + blanks(160) + "^day 1;");
            badSentence(1, blanks(200) + "^x");
            badSentence(1, blanks(193) + "sitting^ ");
            badSentence(1, blanks(194) + "sittin^g");
            badSentence(1, blanks(194) + "^sittings");
            badSentence(3, blanks(193) + "rings ^zz");
            badSentence(1, blanks(194) + "rings ^f");
            badSentence(1, blanks(191) + "pitch < 1^00");
        });
        EDGES.terms("2 a NUMBER that is not as told (at it)", () -> {
            badCourt(2, "one\n\n ^21;");
            badCourt(2, "juror a 1 1 ^13");
            badBook(2, "day ^000;");
            badBook(2, "day ^061");
        });
        EDGES.terms("3 a NAME told twice, not told, or of another sort", () -> {
            badCourt(3, "floor f 0 0;floor ^f 0 0;");
            badCourt(3, "case c ^f;floor f 0 0;");
            badCourt(3, "tuned ^a f 1;");
            badCourt(3, "floor f 0 0;case c ^c;");
            badCourt(3, "juror a 1 1 0;case c ^a;");
            badBook(3, "^f sits;");
            badBook(3, "try ^a;");
            badSentence(3, "rings ^a a");
            badSentence(3, "rings f ^f");
        });
        EDGES.terms("two that were told together told so again (at the second)", () -> {
            String two = "juror a 1 1 0;juror b 1 1 0;floor f 0 0;floor g 0 0;tuned a f 1;tuned b g 1;";
            badCourt(3, two + "tuned a ^f 1;");
            badCourt(3, two + "tuned b ^g");
            court(two + "tuned a g 1;tuned b f 1;", 8);
        });
        EDGES.terms("'one', 'dent' told again (at it)", () -> {
            badCourt(3, "one 3; ^one");
            badCourt(3, "dent 3; ^dent x");
            court("one 3;dent 3;", 2);
        });
        EDGES.terms("4 one more than there may be of a sort, a 41st LINE of a BOOK (at the LINE's first WORD)", () -> {
            badCourt(4, lines("juror j", " 1 1 0;", 10) + " \n^juror");
            badCourt(4, lines("floor f", " 1 1;", 4) + " ^floor fa 1 1;");
            badCourt(4, "floor f 0 0;" + lines("case c", " f;", 5) + "^case 1");
            badBook(4, "day 1;".repeat(40) + " \n^a");
            badBook(4, "day 1;".repeat(40) + "^day 99;");
            badBook(4, "day 1;".repeat(40) + "^try zz;");
        });
        EDGES.terms("a 21st ONE, a ninth within (at its first TOKEN)", () -> {
            badSentence(4, EIGHTEEN + " or dented or dented or ^pitch < 1");
            badSentence(4, EIGHTEEN + " or dented or dented or ^rings zz zz");
            badSentence(4, EIGHTEEN + " or dented or dented or \n^(");
            badSentence(4, EIGHTEEN + " or dented or dented and ^not");
            badSentence(4, "((((((((^pitch");
            badSentence(4, "(((((((not ^rings zz");
            badSentence(4, "(((((((dented or not ^dented");
            badSentence(4, "(((((((dented or (^dented");
        });
    }
}
