import java.util.NoSuchElementException;

/** The court of saucepan lids; the project's document says what each call promises. */
public final class LidCourt {
    public static final int NONE = -1;

    private static final int MOST_JURORS = 10;
    private static final int MOST_FLOORS = 4;
    private static final int MOST_CASES = 5;
    private static final int MOST_DENTS = 20;
    private static final int HIGHEST_RING = 80;
    private static final int HANDS_IN_ALL = 12;
    private static final int LAST_DAY = 400;
    private static final int MOST_DAYS = 60;
    private static final int MOST_SEEDS = 30;
    private static final int DAYS_OF_ODDS = 20;
    private static final int BEATING_ODDS = 6;
    private static final int ACTS_KEPT = 8;
    private static final int IMAGES = 2;

    private static final int TAPE_BYTES = 940;
    private static final int BYTES_FED = 20;
    private static final int COURT_BYTES = 900;
    private static final int BOOK_BYTES = 400;
    private static final int SENTENCE_BYTES = 200;
    private static final int WORD_LETTERS = 7;
    private static final int NUMBER_DIGITS = 3;
    private static final int MOST_NUMBER = 999;
    private static final int BOOK_LINES = 40;
    private static final int SENTENCE_ONES = 20;
    private static final int ONES_WITHIN = 8;
    private static final int ROLL_BYTES = 40;
    private static final int BOOK_NOT_READ = -1000;

    private static final int BAD_TOKEN = 1;
    private static final int BAD_NUMBER = 2;
    private static final int BAD_NAME = 3;
    private static final int TOO_MANY = 4;

    // What no TOKEN is has the kind NO_TOKEN; a sign is its own kind.
    private static final int NO_TOKEN = 0;
    private static final int END = 1;
    private static final int WORD = 2;
    private static final int NUMBER = 3;

    // Ten times an act, and why it can't be done, is what told(0) answers.
    private static final int SIT = 0;
    private static final int RISE = 1;
    private static final int HOLD = 2;
    private static final int DROP = 3;
    private static final int BEAT = 4;
    private static final int TRY = 5;
    private static final int APPEAL = 6;
    private static final int DAYS = 7;

    private static final int OPEN = 0;
    private static final int FREE = 1;
    private static final int GUILTY = 2;

    private static final int AGREED = 0;
    private static final int JURY = 1;
    private static final int PANEL = 2;
    private static final int SURELY = 3;
    private static final int ASKED = 4;
    private static final int STRUCK = 5;
    private static final int BEATEN = 6;
    private static final int LATEST_ANSWERS = 7;

    private static final int TOLD_WHY = 0;
    private static final int TOLD_LINES = 1;
    private static final int TOLD_DAY = 2;
    private static final int TOLD_FREE = 3;
    private static final int TOLD_ANSWERS = 4;

    private static final Word[] WORDS = Word.values();

    private final Reader tape = new Reader();
    private final Law law = new Law();
    private final Standing standing = new Standing();
    private final Saying saying = new Saying();
    private final CourtReader courtReader = new CourtReader(tape);
    private final BookReader bookReader = new BookReader(tape);
    private final SentenceReader sentenceReader = new SentenceReader(tape);
    private final Bench bench = new Bench();
    private final Standing whatIf = new Standing();
    private final History history = new History();
    private final Kept[] images = new Kept[IMAGES];
    private final int[] latest = new int[LATEST_ANSWERS];
    private final int[] latestBook = new int[TOLD_ANSWERS];
    private final char[] latestRoll = new char[ROLL_BYTES];
    private int rollLength;

    public LidCourt() {
        law.empty();
        standing.begin(law);
        for (int k = 0; k < IMAGES; k++) {
            images[k] = new Kept();
        }
        for (int i = 0; i < LATEST_ANSWERS; i++) {
            latest[i] = NONE;
        }
        for (int i = 0; i < TOLD_ANSWERS; i++) {
            latestBook[i] = NONE;
        }
    }

    public int feed(int a, int b, int c, int d, int e) {
        if (tape.length + BYTES_FED > TAPE_BYTES) {
            return NONE;
        }
        tape.append(a);
        tape.append(b);
        tape.append(c);
        tape.append(d);
        tape.append(e);
        return tape.length;
    }

    public boolean end(int n) {
        if (n < 0 || n > tape.length) {
            return false;
        }
        tape.length = n;
        return true;
    }

    public int court() {
        int lines = courtReader.readLines();
        tape.length = 0;
        if (tape.isBroken()) {
            return -1 - tape.faultAt;
        }
        law.copyFrom(courtReader.draft);
        standing.begin(law);
        saying.present = false;
        history.forget();
        return lines;
    }

    public int fault() {
        return tape.faultKind;
    }

    public int juror(int j, int what) throws NoSuchElementException {
        if (!isJuror(j) || what < 0 || what > 6) {
            throw new NoSuchElementException();
        }
        switch (what) {
            case 0:
                return law.pitch[j];
            case 1:
                return law.length[j];
            case 2:
                return law.hands[j];
            case 3:
                return standing.sits >> j & 1;
            case 4:
                return standing.holds >> j & 1;
            case 5:
                return standing.dents[j];
            default:
                return standing.drops[j];
        }
    }

    public int trial(int c, int what) throws NoSuchElementException {
        if (!isCase(c) || what < 0 || what > 4) {
            throw new NoSuchElementException();
        }
        switch (what) {
            case 0:
                return law.caseFloor[c];
            case 1:
                return standing.how[c];
            case 2:
                return standing.triedOn[c];
            case 3:
                return standing.dropped[c];
            default:
                return standing.heldOn[c];
        }
    }

    public int ring(int j, int f) {
        return isJuror(j) && isFloor(f) ? standing.ringOf(law, j, f) : NONE;
    }

    public int lasts(int j, int f) {
        return isJuror(j) && isFloor(f) ? law.lastsOf(j, f) : NONE;
    }

    public int now(int what) {
        switch (what) {
            case 0:
                return standing.day;
            case 1:
                return standing.sits;
            case 2:
                return standing.holds;
            case 3:
                return standing.casesThatAre(FREE);
            case 4:
                return standing.casesThatAre(GUILTY);
            case 5:
                return standing.allDents();
            case 6:
                return standing.trials;
            case 7:
                return standing.triedToday ? 1 : 0;
            default:
                return NONE;
        }
    }

    public int sit(int j) {
        return isJuror(j) ? act(SIT, j) : NONE;
    }

    public int rise(int j) {
        return isJuror(j) ? act(RISE, j) : NONE;
    }

    public int hold(int j) {
        return isJuror(j) ? act(HOLD, j) : NONE;
    }

    public int drop(int j) {
        return isJuror(j) ? act(DROP, j) : NONE;
    }

    public int beat(int j) {
        return isJuror(j) ? act(BEAT, j) : NONE;
    }

    public int tryCase(int c) {
        return isCase(c) ? act(TRY, c) : NONE;
    }

    public int appeal(int c) {
        return isCase(c) ? act(APPEAL, c) : NONE;
    }

    public int days(int n) {
        if (n < 1 || n > MOST_DAYS) {
            return NONE;
        }
        int going = Math.min(n, standing.daysLeft());
        if (going > 0) {
            act(DAYS, going);
        }
        return going;
    }

    public int undo() {
        if (history.kept == 0) {
            return NONE;
        }
        history.takeBack(standing);
        return history.kept;
    }

    public int verdict(int c) {
        int apart = spread(c);
        if (apart == NONE) {
            return NONE;
        }
        return apart <= law.one ? 1 : 0;
    }

    public int spread(int c) {
        int droppers = standing.droppers();
        if (!isCase(c) || droppers == 0) {
            return NONE;
        }
        return standing.apart(law, droppers, law.caseFloor[c], 0);
    }

    public int longest(int c) {
        int droppers = standing.droppers();
        if (!isCase(c) || droppers == 0) {
            return NONE;
        }
        int longest = 0;
        for (int j = 0; j < law.jurors; j++) {
            if ((droppers >> j & 1) != 0) {
                longest = Math.max(longest, law.lastsOf(j, law.caseFloor[c]));
            }
        }
        return longest;
    }

    public int agree(int f) {
        if (law.jurors == 0 || !isFloor(f)) {
            return NONE;
        }
        bench.measure(law, standing, f);
        latest[AGREED] = bench.mostInOneRing(law);
        return Integer.bitCount(latest[AGREED]);
    }

    public int agreed() {
        return latest[AGREED];
    }

    public int jury(int c, int n) {
        if (!isCase(c) || n < 1 || n > law.jurors) {
            return NONE;
        }
        bench.measure(law, standing, law.caseFloor[c]);
        latest[JURY] = bench.nearest(law, n);
        return bench.apart(latest[JURY]);
    }

    public int jurors() {
        return latest[JURY];
    }

    public long likely(int c, int what) throws NoSuchElementException {
        if (!isCase(c) || what < 0 || what > 1) {
            throw new NoSuchElementException();
        }
        bench.measure(law, standing, law.caseFloor[c]);
        bench.weigh(law);
        return bench.partOfFreeWeight(standing.sits, law.one, what);
    }

    public long panel(int c, int n, int what) throws NoSuchElementException {
        if (!isCase(c) || n < 1 || n > law.jurors || what < 0 || what > 1) {
            throw new NoSuchElementException();
        }
        bench.measure(law, standing, law.caseFloor[c]);
        bench.weigh(law);
        latest[PANEL] = bench.likeliest(law, n);
        return bench.partOfFreeWeight(latest[PANEL], law.one, what);
    }

    public int panelled() {
        return latest[PANEL];
    }

    public int heard() {
        boolean asTold = tape.length == 3 && isFloor(tape.bytes[0]);
        tape.length = 0;
        if (!asTold) {
            return NONE;
        }
        bench.measure(law, standing, tape.bytes[0]);
        int sets = bench.hear(standing.sits, tape.bytes[1], tape.bytes[2]);
        if (sets > 0) {
            latest[SURELY] = bench.inAllHeard(sets);
            latest[ASKED] = bench.inHalfHeard(standing.sits, sets);
        }
        return sets;
    }

    public int surely() {
        return latest[SURELY];
    }

    public int ask() {
        return latest[ASKED];
    }

    public int strikes(int c, int n) {
        if (!isCase(c) || n < 1 || n >= Integer.bitCount(standing.sits)) {
            return NONE;
        }
        bench.measure(law, standing, law.caseFloor[c]);
        bench.judgeStrikes(standing.sits, n, law.one);
        latest[STRUCK] = bench.firstStruck(standing.sits);
        return bench.frees[standing.sits] ? 1 : 0;
    }

    public int struck() {
        return latest[STRUCK];
    }

    public int beats(int c) {
        int droppers = standing.droppers();
        if (!isCase(c) || droppers == 0) {
            return NONE;
        }
        int beaten = bench.fewestBeaten(law, standing, droppers, law.caseFloor[c]);
        if (beaten == NONE) {
            return NONE;
        }
        latest[BEATEN] = beaten;
        return Integer.bitCount(beaten);
    }

    public int beating() {
        return latest[BEATEN];
    }

    public int roll(int c) {
        if (!isCase(c)) {
            return NONE;
        }
        rollLength = 0;
        writeName(law.caseName[c]);
        if (standing.how[c] == OPEN) {
            writeText(" is open");
            return rollLength;
        }
        writeText(standing.how[c] == FREE ? " is free by " : " is guilty by ");
        int many = Integer.bitCount(standing.dropped[c]);
        if (many >= 10) {
            writeLetter((char) ('0' + many / 10));
        }
        writeLetter((char) ('0' + many % 10));
        return rollLength;
    }

    public int byteAt(int i) {
        return i < 0 || i >= rollLength ? NONE : latestRoll[i];
    }

    public int drawn(int n, int seed) {
        if (n < 1 || n > MOST_DAYS || law.jurors == 0) {
            return NONE;
        }
        int going = Math.min(n, standing.daysLeft());
        if (going > 0) {
            history.keep(standing);
            standing.drawDays(law, going, seed);
        }
        return going;
    }

    public int odds(int c, int n, int seed) {
        if (!isCase(c) || n < 1 || n > MOST_SEEDS || law.jurors == 0) {
            return NONE;
        }
        int free = 0;
        for (int i = 0; i < n; i++) {
            whatIf.copyFrom(standing);
            whatIf.drawDays(law, Math.min(DAYS_OF_ODDS, whatIf.daysLeft()), seed + i);
            if (whatIf.how[c] == FREE) {
                free++;
            }
        }
        return free;
    }

    public int book(int lives) {
        if (lives != 0 && lives != 1) {
            return BOOK_NOT_READ;
        }
        bookReader.readLines(law);
        tape.length = 0;
        if (tape.isBroken()) {
            return -2 - tape.faultAt;
        }
        whatIf.copyFrom(standing);
        int done = liveBook();
        if (lives == 1) {
            history.keep(standing);
            standing.copyFrom(whatIf);
        }
        return done == bookReader.lines ? NONE : done;
    }

    public int told(int what) {
        return what < 0 || what >= TOLD_ANSWERS ? NONE : latestBook[what];
    }

    public int sentence() {
        sentenceReader.begin();
        sentenceReader.readCond(law, 1);
        sentenceReader.finish();
        tape.length = 0;
        if (tape.isBroken()) {
            return -1 - tape.faultAt;
        }
        saying.copyFrom(sentenceReader.draft);
        return sentenceReader.ones;
    }

    public int said(int k) {
        if (!saying.present || k < NONE) {
            return NONE;
        }
        int these = saying.saidOf(law, standing);
        if (k == NONE) {
            return Integer.bitCount(these);
        }
        int ahead = 0;
        for (int j = 0; j < law.jurors; j++) {
            if ((these >> j & 1) != 0) {
                if (ahead == k) {
                    return j;
                }
                ahead++;
            }
        }
        return NONE;
    }

    public boolean image(int k) {
        if (k < 0 || k >= IMAGES) {
            return false;
        }
        images[k].filled = true;
        images[k].law.copyFrom(law);
        images[k].standing.copyFrom(standing);
        images[k].saying.copyFrom(saying);
        return true;
    }

    public boolean restore(int k) {
        if (k < 0 || k >= IMAGES || !images[k].filled) {
            return false;
        }
        law.copyFrom(images[k].law);
        standing.copyFrom(images[k].standing);
        saying.copyFrom(images[k].saying);
        history.forget();
        return true;
    }

    public int count(int what) {
        switch (what) {
            case 0:
                return law.jurors;
            case 1:
                return law.floors;
            case 2:
                return law.cases;
            case 3:
                return law.one;
            case 4:
                return law.dent;
            case 5:
                return tape.length;
            default:
                return NONE;
        }
    }

    private boolean isJuror(int j) {
        return j >= 0 && j < law.jurors;
    }

    private boolean isFloor(int f) {
        return f >= 0 && f < law.floors;
    }

    private boolean isCase(int c) {
        return c >= 0 && c < law.cases;
    }

    private int act(int doing, int whom) {
        int why = standing.whyNot(doing, whom);
        if (why == 0) {
            history.keep(standing);
            standing.carryOut(law, doing, whom);
        }
        return why;
    }

    /** Lives the BOOK in whatIf, so that a BOOK that is only judged leaves no trace. */
    private int liveBook() {
        int done = 0;
        int why = 0;
        while (done < bookReader.lines) {
            why = whatIf.whyNot(bookReader.acts[done], bookReader.whom[done]);
            if (why != 0) {
                why += 10 * bookReader.acts[done];
                break;
            }
            whatIf.carryOut(law, bookReader.acts[done], bookReader.whom[done]);
            done++;
        }
        latestBook[TOLD_WHY] = why;
        latestBook[TOLD_LINES] = done;
        latestBook[TOLD_DAY] = whatIf.day;
        latestBook[TOLD_FREE] = whatIf.casesThatAre(FREE);
        return done;
    }

    private void writeName(long letters) {
        for (int i = WORD_LETTERS - 1; i >= 0; i--) {
            int letter = (int) (letters >> 5 * i & 31);
            if (letter != 0) {
                writeLetter((char) ('a' - 1 + letter));
            }
        }
    }

    private void writeText(String text) {
        for (int i = 0; i < text.length(); i++) {
            writeLetter(text.charAt(i));
        }
    }

    private void writeLetter(char letter) {
        if (rollLength < ROLL_BYTES) {
            latestRoll[rollLength] = letter;
            rollLength++;
        }
    }

    /** The WORDS that are no NAMES. */
    private enum Word {
        JUROR("juror"), SEATED("seated"), FLOOR("floor"), CASE("case"), TUNED("tuned"), ONE("one"), DENT("dent"),
        SITS("sits"), RISES("rises"), HOLDS("holds"), DROPS("drops"), BEATEN("beaten"),
        TRY("try"), APPEAL("appeal"), DAY("day"),
        OR("or"), AND("and"), NOT("not"), SITTING("sitting"), HOLDING("holding"), DENTED("dented"), RINGS("rings"),
        PITCH("pitch"), LENGTH("length"), DENTS("dents"), NUMBER("number");

        /** Five bits a letter, so that two WORDS are alike just if two longs are. */
        final long letters;

        Word(String text) {
            long packed = 0;
            for (int i = 0; i < text.length(); i++) {
                packed = packed * 32 + (text.charAt(i) - 'a' + 1);
            }
            letters = packed;
        }
    }

    /** The tape, read TOKEN by TOKEN. Behind the first FAULT no TOKEN comes any more, so that no later one is told. */
    private static final class Reader {
        final int[] bytes = new int[TAPE_BYTES];
        int length;
        int faultKind;
        int faultAt;
        /** Of the WORD that has come; 0 if no WORD has, so that nothing else is found as a NAME. */
        long letters;
        private int mostBytes;
        private int behind;
        private int at;
        private int kind;
        private int number;

        void append(int four) {
            for (int shift = 24; shift >= 0 && length < TAPE_BYTES; shift -= 8) {
                bytes[length] = four >>> shift & 255;
                length++;
            }
        }

        void begin(int most) {
            mostBytes = most;
            behind = 0;
            faultKind = 0;
            faultAt = 0;
            advance();
        }

        void advance() {
            if (isBroken()) {
                return;
            }
            int edge = Math.min(length, mostBytes);
            while (behind < edge && (bytes[behind] == ' ' || bytes[behind] == '\n')) {
                behind++;
            }
            letters = 0;
            if (behind >= edge) {
                at = edge;
                kind = length > mostBytes ? NO_TOKEN : END;
                return;
            }
            at = behind;
            readRun();
            if (behind == at) {
                kind = isSign(bytes[at]) ? bytes[at] : NO_TOKEN;
                behind++;
            }
        }

        /** Reads to the end of small letters and digits, past the most bytes too. */
        private void readRun() {
            int small = 0;
            int digits = 0;
            number = 0;
            while (behind < length) {
                int sign = bytes[behind];
                if (sign >= 'a' && sign <= 'z') {
                    letters = letters * 32 + (sign - 'a' + 1);
                    small++;
                } else if (sign >= '0' && sign <= '9') {
                    number = number * 10 + (sign - '0');
                    digits++;
                } else {
                    break;
                }
                behind++;
            }
            if (digits == 0 && small <= WORD_LETTERS) {
                kind = WORD;
            } else if (small == 0 && digits <= NUMBER_DIGITS) {
                kind = NUMBER;
            } else {
                kind = NO_TOKEN;
            }
            if (kind != WORD) {
                letters = 0;
            }
        }

        private static boolean isSign(int sign) {
            return sign == ';' || sign == '<' || sign == '=' || sign == '>' || sign == '(' || sign == ')';
        }

        boolean isBroken() {
            return faultKind != 0;
        }

        boolean goesOn() {
            return !isBroken() && kind != END;
        }

        void fail(int fault) {
            if (!isBroken()) {
                faultKind = fault;
                faultAt = at;
                kind = NO_TOKEN;
                letters = 0;
            }
        }

        boolean sees(Word word) {
            return kind == WORD && letters == word.letters;
        }

        boolean seesSign(int sign) {
            return kind == sign;
        }

        boolean seesName() {
            if (kind != WORD) {
                return false;
            }
            for (int i = 0; i < WORDS.length; i++) {
                if (letters == WORDS[i].letters) {
                    return false;
                }
            }
            return true;
        }

        boolean takeIf(Word word) {
            boolean seen = sees(word);
            if (seen) {
                advance();
            }
            return seen;
        }

        void takeSign(int sign) {
            if (seesSign(sign)) {
                advance();
            } else {
                fail(BAD_TOKEN);
            }
        }

        int takeNumber(int least, int most) {
            if (kind != NUMBER) {
                fail(BAD_TOKEN);
                return 0;
            }
            if (number < least || number > most) {
                fail(BAD_NUMBER);
                return 0;
            }
            int taken = number;
            advance();
            return taken;
        }

        /** Takes a NAME that must be found; found is what it was found as, or NONE. */
        int takeFound(int found) {
            if (!seesName()) {
                fail(BAD_TOKEN);
                return NONE;
            }
            if (found == NONE) {
                fail(BAD_NAME);
                return NONE;
            }
            advance();
            return found;
        }

        long takeNewName(boolean told) {
            if (!seesName()) {
                fail(BAD_TOKEN);
                return 0;
            }
            if (told) {
                fail(BAD_NAME);
                return 0;
            }
            long taken = letters;
            advance();
            return taken;
        }
    }

    /** A COURT as its text tells it: nothing here changes by what is done. */
    private static final class Law {
        int jurors;
        int floors;
        int cases;
        int one;
        int dent;
        int seated;
        final long[] jurorName = new long[MOST_JURORS];
        final long[] floorName = new long[MOST_FLOORS];
        final long[] caseName = new long[MOST_CASES];
        final int[] pitch = new int[MOST_JURORS];
        final int[] length = new int[MOST_JURORS];
        final int[] hands = new int[MOST_JURORS];
        final int[] tune = new int[MOST_FLOORS];
        final int[] dull = new int[MOST_FLOORS];
        final int[] caseFloor = new int[MOST_CASES];
        final int[] tuned = new int[MOST_JURORS * MOST_FLOORS];

        void empty() {
            jurors = 0;
            floors = 0;
            cases = 0;
            one = 3;
            dent = 1;
            seated = 0;
            for (int i = 0; i < tuned.length; i++) {
                tuned[i] = NONE;
            }
        }

        void copyFrom(Law other) {
            jurors = other.jurors;
            floors = other.floors;
            cases = other.cases;
            one = other.one;
            dent = other.dent;
            seated = other.seated;
            System.arraycopy(other.jurorName, 0, jurorName, 0, MOST_JURORS);
            System.arraycopy(other.floorName, 0, floorName, 0, MOST_FLOORS);
            System.arraycopy(other.caseName, 0, caseName, 0, MOST_CASES);
            System.arraycopy(other.pitch, 0, pitch, 0, MOST_JURORS);
            System.arraycopy(other.length, 0, length, 0, MOST_JURORS);
            System.arraycopy(other.hands, 0, hands, 0, MOST_JURORS);
            System.arraycopy(other.tune, 0, tune, 0, MOST_FLOORS);
            System.arraycopy(other.dull, 0, dull, 0, MOST_FLOORS);
            System.arraycopy(other.caseFloor, 0, caseFloor, 0, MOST_CASES);
            System.arraycopy(other.tuned, 0, tuned, 0, MOST_JURORS * MOST_FLOORS);
        }

        int jurorNamed(long letters) {
            return placeOf(jurorName, jurors, letters);
        }

        int floorNamed(long letters) {
            return placeOf(floorName, floors, letters);
        }

        int caseNamed(long letters) {
            return placeOf(caseName, cases, letters);
        }

        boolean isTold(long letters) {
            return jurorNamed(letters) != NONE || floorNamed(letters) != NONE || caseNamed(letters) != NONE;
        }

        private static int placeOf(long[] names, int many, long letters) {
            for (int i = 0; i < many && i < names.length; i++) {
                if (names[i] == letters) {
                    return i;
                }
            }
            return NONE;
        }

        int ringWithoutDents(int j, int f) {
            int asTuned = tuned[j * MOST_FLOORS + f];
            return asTuned != NONE ? asTuned : pitch[j] + tune[f];
        }

        int lastsOf(int j, int f) {
            return Math.max(1, length[j] - dull[f]);
        }
    }

    /** Reads a COURT into a draft, so that the COURT that is stays by a FAULT. */
    private static final class CourtReader {
        final Law draft = new Law();
        private final Reader reader;
        private boolean toldOne;
        private boolean toldDent;

        CourtReader(Reader reader) {
            this.reader = reader;
        }

        int readLines() {
            draft.empty();
            toldOne = false;
            toldDent = false;
            reader.begin(COURT_BYTES);
            int lines = 0;
            while (lines < COURT_BYTES && reader.goesOn()) {
                readLine();
                lines++;
            }
            return lines;
        }

        private void readLine() {
            if (reader.sees(Word.JUROR)) {
                readJuror();
            } else if (reader.sees(Word.FLOOR)) {
                readFloor();
            } else if (reader.sees(Word.CASE)) {
                readCase();
            } else if (reader.sees(Word.TUNED)) {
                readTuned();
            } else if (reader.sees(Word.ONE)) {
                readOne();
            } else if (reader.sees(Word.DENT)) {
                readDent();
            } else {
                reader.fail(BAD_TOKEN);
            }
        }

        private void readJuror() {
            if (draft.jurors >= MOST_JURORS) {
                reader.fail(TOO_MANY);
            }
            reader.advance();
            long name = reader.takeNewName(draft.isTold(reader.letters));
            int pitch = reader.takeNumber(1, 60);
            int length = reader.takeNumber(1, 20);
            int hands = reader.takeNumber(0, HANDS_IN_ALL);
            boolean seated = reader.takeIf(Word.SEATED);
            reader.takeSign(';');
            if (reader.isBroken()) {
                return;
            }
            int j = draft.jurors;
            draft.jurorName[j] = name;
            draft.pitch[j] = pitch;
            draft.length[j] = length;
            draft.hands[j] = hands;
            if (seated) {
                draft.seated |= 1 << j;
            }
            draft.jurors++;
        }

        private void readFloor() {
            if (draft.floors >= MOST_FLOORS) {
                reader.fail(TOO_MANY);
            }
            reader.advance();
            long name = reader.takeNewName(draft.isTold(reader.letters));
            int tune = reader.takeNumber(0, 20);
            int dull = reader.takeNumber(0, 20);
            reader.takeSign(';');
            if (reader.isBroken()) {
                return;
            }
            int f = draft.floors;
            draft.floorName[f] = name;
            draft.tune[f] = tune;
            draft.dull[f] = dull;
            draft.floors++;
        }

        private void readCase() {
            if (draft.cases >= MOST_CASES) {
                reader.fail(TOO_MANY);
            }
            reader.advance();
            long name = reader.takeNewName(draft.isTold(reader.letters));
            int floor = reader.takeFound(draft.floorNamed(reader.letters));
            reader.takeSign(';');
            if (reader.isBroken()) {
                return;
            }
            int c = draft.cases;
            draft.caseName[c] = name;
            draft.caseFloor[c] = floor;
            draft.cases++;
        }

        private void readTuned() {
            reader.advance();
            int j = reader.takeFound(draft.jurorNamed(reader.letters));
            int f = reader.takeFound(floorNotTunedFor(j));
            int tuned = reader.takeNumber(0, 60);
            reader.takeSign(';');
            if (reader.isBroken() || j == NONE || f == NONE) {
                return;
            }
            draft.tuned[j * MOST_FLOORS + f] = tuned;
        }

        /** The FLOOR that is named, NONE if the two were told together: takeFound alone judges what has come. */
        private int floorNotTunedFor(int j) {
            int f = draft.floorNamed(reader.letters);
            if (j == NONE || f == NONE) {
                return NONE;
            }
            return draft.tuned[j * MOST_FLOORS + f] == NONE ? f : NONE;
        }

        private void readOne() {
            if (toldOne) {
                reader.fail(BAD_NAME);
            }
            reader.advance();
            draft.one = reader.takeNumber(0, 20);
            reader.takeSign(';');
            toldOne = true;
        }

        private void readDent() {
            if (toldDent) {
                reader.fail(BAD_NAME);
            }
            reader.advance();
            draft.dent = reader.takeNumber(0, 9);
            reader.takeSign(';');
            toldDent = true;
        }
    }

    /** All that is so in a COURT and changes by what is done. */
    private static final class Standing {
        int day;
        int sits;
        int holds;
        int trials;
        boolean triedToday;
        final int[] dents = new int[MOST_JURORS];
        final int[] drops = new int[MOST_JURORS];
        final int[] how = new int[MOST_CASES];
        final int[] triedOn = new int[MOST_CASES];
        final int[] dropped = new int[MOST_CASES];
        final int[] heldOn = new int[MOST_CASES];

        void begin(Law law) {
            day = 0;
            sits = law.seated;
            holds = 0;
            trials = 0;
            triedToday = false;
            for (int j = 0; j < MOST_JURORS; j++) {
                dents[j] = 0;
                drops[j] = 0;
            }
            for (int c = 0; c < MOST_CASES; c++) {
                how[c] = OPEN;
                triedOn[c] = NONE;
                dropped[c] = 0;
                heldOn[c] = 0;
            }
        }

        void copyFrom(Standing other) {
            day = other.day;
            sits = other.sits;
            holds = other.holds;
            trials = other.trials;
            triedToday = other.triedToday;
            System.arraycopy(other.dents, 0, dents, 0, MOST_JURORS);
            System.arraycopy(other.drops, 0, drops, 0, MOST_JURORS);
            System.arraycopy(other.how, 0, how, 0, MOST_CASES);
            System.arraycopy(other.triedOn, 0, triedOn, 0, MOST_CASES);
            System.arraycopy(other.dropped, 0, dropped, 0, MOST_CASES);
            System.arraycopy(other.heldOn, 0, heldOn, 0, MOST_CASES);
        }

        int droppers() {
            return sits & ~holds;
        }

        int daysLeft() {
            return LAST_DAY - day;
        }

        int casesThatAre(int state) {
            int bits = 0;
            for (int c = 0; c < MOST_CASES; c++) {
                if (how[c] == state) {
                    bits |= 1 << c;
                }
            }
            return bits;
        }

        int allDents() {
            int all = 0;
            for (int j = 0; j < MOST_JURORS; j++) {
                all += dents[j];
            }
            return all;
        }

        int ringOf(Law law, int j, int f) {
            return Math.max(0, law.ringWithoutDents(j, f) - law.dent * dents[j]);
        }

        /** How far the RINGS of a set that is not empty are apart, as if those of another were beaten out. */
        int apart(Law law, int set, int floor, int beaten) {
            int low = HIGHEST_RING;
            int high = 0;
            for (int j = 0; j < law.jurors; j++) {
                if ((set >> j & 1) != 0) {
                    boolean out = (beaten >> j & 1) != 0;
                    int ring = out ? law.ringWithoutDents(j, floor) : ringOf(law, j, floor);
                    low = Math.min(low, ring);
                    high = Math.max(high, ring);
                }
            }
            return high - low;
        }

        /** Whom: a JUROR, a CASE or, for DAYS, how many. */
        int whyNot(int act, int whom) {
            switch (act) {
                case SIT:
                    return sits >> whom & 1;
                case RISE:
                    return ~sits >> whom & 1;
                case HOLD:
                    return holds >> whom & 1;
                case DROP:
                    return ~holds >> whom & 1;
                case BEAT:
                    return dents[whom] == 0 ? 1 : 0;
                case TRY:
                    return whyNotTry(whom);
                case APPEAL:
                    return whyNotAppeal(whom);
                default:
                    return daysLeft() < whom ? 1 : 0;
            }
        }

        private int whyNotTry(int c) {
            if (how[c] != OPEN) {
                return 1;
            }
            if (triedToday) {
                return 2;
            }
            return droppers() == 0 ? 3 : 0;
        }

        private int whyNotAppeal(int c) {
            if (how[c] == OPEN) {
                return 1;
            }
            return heldOn[c] == 0 ? 2 : 0;
        }

        void carryOut(Law law, int act, int whom) {
            switch (act) {
                case SIT:
                    sits |= 1 << whom;
                    break;
                case RISE:
                    sits &= ~(1 << whom);
                    break;
                case HOLD:
                    holds |= 1 << whom;
                    break;
                case DROP:
                    holds &= ~(1 << whom);
                    break;
                case BEAT:
                    dents[whom] = 0;
                    break;
                case TRY:
                    dropLids(law, whom);
                    break;
                case APPEAL:
                    how[whom] = OPEN;
                    break;
                default:
                    letDaysGo(whom);
                    break;
            }
        }

        private void dropLids(Law law, int c) {
            int these = droppers();
            how[c] = apart(law, these, law.caseFloor[c], 0) <= law.one ? FREE : GUILTY;
            triedOn[c] = day;
            dropped[c] = these;
            heldOn[c] = sits & holds;
            trials++;
            triedToday = true;
            for (int j = 0; j < law.jurors; j++) {
                if ((these >> j & 1) != 0) {
                    dents[j] = Math.min(MOST_DENTS, dents[j] + 1);
                    drops[j]++;
                }
            }
        }

        private void letDaysGo(int many) {
            day = Math.min(LAST_DAY, day + many);
            holds = 0;
            triedToday = false;
        }

        void drawDays(Law law, int many, int seed) {
            int x = seed;
            for (int i = 0; i < many; i++) {
                x = drawDay(law, x);
            }
        }

        /** Answers the x behind the DAY's draws. */
        private int drawDay(Law law, int seed) {
            int x = seed;
            for (int j = 0; j < law.jurors; j++) {
                x = afterDraw(x);
                carryOut(law, drawOf(x, HANDS_IN_ALL) < law.hands[j] ? HOLD : DROP, j);
            }
            if (law.cases > 0) {
                x = afterDraw(x);
                int c = drawOf(x, law.cases);
                if (whyNotTry(c) == 0) {
                    dropLids(law, c);
                }
            }
            x = afterDraw(x);
            if (drawOf(x, BEATING_ODDS) == 0 && law.jurors > 0) {
                x = afterDraw(x);
                dents[drawOf(x, law.jurors)] = 0;
            }
            letDaysGo(1);
            return x;
        }

        private static int afterDraw(int x) {
            return x * 1103515245 + 12345;
        }

        private static int drawOf(int x, int n) {
            return n > 0 ? (x >>> 8) % n : 0;
        }
    }

    /** Reads a BOOK whole ahead of any LINE of it being judged. */
    private static final class BookReader {
        final int[] acts = new int[BOOK_LINES];
        final int[] whom = new int[BOOK_LINES];
        int lines;
        private final Reader reader;

        BookReader(Reader reader) {
            this.reader = reader;
        }

        void readLines(Law law) {
            lines = 0;
            reader.begin(BOOK_BYTES);
            for (int i = 0; i <= BOOK_LINES && reader.goesOn(); i++) {
                readLine(law);
            }
        }

        private void readLine(Law law) {
            int act = firstAct();
            int who = act == NONE ? law.jurorNamed(reader.letters) : NONE;
            if (act == NONE && !reader.seesName()) {
                reader.fail(BAD_TOKEN);
            } else if (act == NONE && who == NONE) {
                reader.fail(BAD_NAME);
            } else if (lines >= BOOK_LINES) {
                reader.fail(TOO_MANY);
            }
            reader.advance();
            if (act == NONE) {
                act = takeJurorsAct();
            } else if (act == DAYS) {
                who = reader.takeNumber(1, MOST_DAYS);
            } else {
                who = reader.takeFound(law.caseNamed(reader.letters));
            }
            reader.takeSign(';');
            if (reader.isBroken()) {
                return;
            }
            acts[lines] = act;
            whom[lines] = who;
            lines++;
        }

        private int firstAct() {
            if (reader.sees(Word.TRY)) {
                return TRY;
            }
            if (reader.sees(Word.APPEAL)) {
                return APPEAL;
            }
            return reader.sees(Word.DAY) ? DAYS : NONE;
        }

        private int takeJurorsAct() {
            if (reader.takeIf(Word.SITS)) {
                return SIT;
            }
            if (reader.takeIf(Word.RISES)) {
                return RISE;
            }
            if (reader.takeIf(Word.HOLDS)) {
                return HOLD;
            }
            if (reader.takeIf(Word.DROPS)) {
                return DROP;
            }
            if (reader.takeIf(Word.BEATEN)) {
                return BEAT;
            }
            reader.fail(BAD_TOKEN);
            return NONE;
        }
    }

    /** A SENTENCE as steps over sets of JURORS: a plain ONE lays its set down, 'not', 'and', 'or' work on the last. */
    private static final class Saying {
        private static final int MOST_STEPS = 2 * SENTENCE_ONES;

        boolean present;
        private int steps;
        private final Word[] word = new Word[MOST_STEPS];
        private final int[] first = new int[MOST_STEPS];
        private final int[] second = new int[MOST_STEPS];
        private final int[] sets = new int[SENTENCE_ONES];

        void empty() {
            present = false;
            steps = 0;
        }

        void copyFrom(Saying other) {
            present = other.present;
            steps = other.steps;
            for (int i = 0; i < MOST_STEPS; i++) {
                word[i] = other.word[i];
                first[i] = other.first[i];
                second[i] = other.second[i];
            }
        }

        void add(Word doing, int a, int b) {
            if (steps < MOST_STEPS) {
                word[steps] = doing;
                first[steps] = a;
                second[steps] = b;
                steps++;
            }
        }

        int saidOf(Law law, Standing standing) {
            int all = (1 << law.jurors) - 1;
            int laid = 0;
            for (int i = 0; i < steps; i++) {
                if (word[i] == Word.NOT) {
                    if (laid >= 1) {
                        sets[laid - 1] ^= all;
                    }
                } else if (word[i] == Word.AND || word[i] == Word.OR) {
                    if (laid >= 2) {
                        laid--;
                        sets[laid - 1] = word[i] == Word.AND
                            ? sets[laid - 1] & sets[laid] : sets[laid - 1] | sets[laid];
                    }
                } else if (laid < SENTENCE_ONES) {
                    sets[laid] = setOf(law, standing, i);
                    laid++;
                }
            }
            return laid > 0 ? sets[0] : 0;
        }

        private int setOf(Law law, Standing standing, int step) {
            if (word[step] == Word.SITTING) {
                return standing.sits;
            }
            if (word[step] == Word.HOLDING) {
                return standing.holds;
            }
            int set = 0;
            for (int j = 0; j < law.jurors; j++) {
                if (isSo(law, standing, step, j)) {
                    set |= 1 << j;
                }
            }
            return set;
        }

        private boolean isSo(Law law, Standing standing, int step, int j) {
            Word what = word[step];
            if (what == Word.DENTED) {
                return standing.dents[j] > 0;
            }
            if (what == Word.RINGS) {
                int his = standing.ringOf(law, j, first[step]);
                int other = standing.ringOf(law, second[step], first[step]);
                return Math.abs(his - other) <= law.one;
            }
            if (what == Word.PITCH) {
                return compares(law.pitch[j], step);
            }
            if (what == Word.LENGTH) {
                return compares(law.length[j], step);
            }
            return compares(what == Word.DENTS ? standing.dents[j] : j, step);
        }

        private boolean compares(int his, int step) {
            if (first[step] == '<') {
                return his < second[step];
            }
            return first[step] == '=' ? his == second[step] : his > second[step];
        }
    }

    /** Reads a SENTENCE into a draft, so that the SENTENCE that is stays by a FAULT. */
    private static final class SentenceReader {
        final Saying draft = new Saying();
        int ones;
        private final Reader reader;

        SentenceReader(Reader reader) {
            this.reader = reader;
        }

        void begin() {
            draft.empty();
            ones = 0;
            reader.begin(SENTENCE_BYTES);
        }

        void finish() {
            if (reader.goesOn()) {
                reader.fail(BAD_TOKEN);
            }
            draft.present = true;
        }

        void readCond(Law law, int depth) {
            readAll(law, depth);
            for (int i = 0; i < SENTENCE_ONES && reader.takeIf(Word.OR); i++) {
                readAll(law, depth);
                draft.add(Word.OR, 0, 0);
            }
        }

        private void readAll(Law law, int depth) {
            readOne(law, depth);
            for (int i = 0; i < SENTENCE_ONES && reader.takeIf(Word.AND); i++) {
                readOne(law, depth);
                draft.add(Word.AND, 0, 0);
            }
        }

        private void readOne(Law law, int depth) {
            Word plain = plainWord();
            if (plain == null && !reader.sees(Word.NOT) && !reader.seesSign('(')) {
                reader.fail(BAD_TOKEN);
                return;
            }
            if (ones >= SENTENCE_ONES || depth > ONES_WITHIN) {
                reader.fail(TOO_MANY);
                return;
            }
            ones++;
            boolean bracket = reader.seesSign('(');
            reader.advance();
            if (bracket) {
                readCond(law, depth + 1);
                reader.takeSign(')');
            } else if (plain == null) {
                readOne(law, depth + 1);
                draft.add(Word.NOT, 0, 0);
            } else {
                readPlain(law, plain);
            }
        }

        private Word plainWord() {
            for (int i = 0; i < WORDS.length; i++) {
                if (reader.sees(WORDS[i])) {
                    return isPlain(WORDS[i]) ? WORDS[i] : null;
                }
            }
            return null;
        }

        private static boolean isPlain(Word word) {
            return word == Word.SITTING || word == Word.HOLDING || word == Word.DENTED || word == Word.RINGS
                || isMeasure(word);
        }

        private static boolean isMeasure(Word word) {
            return word == Word.PITCH || word == Word.LENGTH || word == Word.DENTS || word == Word.NUMBER;
        }

        private void readPlain(Law law, Word plain) {
            int a = 0;
            int b = 0;
            if (plain == Word.RINGS) {
                a = reader.takeFound(law.floorNamed(reader.letters));
                b = reader.takeFound(law.jurorNamed(reader.letters));
            } else if (isMeasure(plain)) {
                a = seenSign();
                reader.takeSign(a);
                b = reader.takeNumber(0, MOST_NUMBER);
            }
            draft.add(plain, a, b);
        }

        /** The sign of the three that comes; one of them that does not come, if none does. */
        private int seenSign() {
            if (reader.seesSign('<')) {
                return '<';
            }
            return reader.seesSign('>') ? '>' : '=';
        }
    }

    /** Searches over sets of JURORS, told as bits; the rows are made once, for no call to make any. */
    private static final class Bench {
        private static final int SETS = 1 << MOST_JURORS;

        final boolean[] frees = new boolean[SETS];
        private final int[] low = new int[SETS];
        private final int[] high = new int[SETS];
        private final long[] letGoWeight = new long[SETS];
        private final long[] holdWeight = new long[SETS];
        private final int[] heardWith = new int[MOST_JURORS];

        /** Must come ahead of all searches but fewestBeaten: they use the RINGS that it lays down. */
        void measure(Law law, Standing standing, int floor) {
            for (int set = 1; set < 1 << law.jurors; set++) {
                int j = Integer.numberOfTrailingZeros(set);
                int others = set & set - 1;
                if (others == 0) {
                    low[set] = standing.ringOf(law, j, floor);
                    high[set] = low[set];
                } else {
                    low[set] = Math.min(low[others], low[1 << j]);
                    high[set] = Math.max(high[others], high[1 << j]);
                }
            }
        }

        int apart(int set) {
            return high[set] - low[set];
        }

        int mostInOneRing(Law law) {
            int best = 0;
            for (int set = 1; set < 1 << law.jurors; set++) {
                if (apart(set) <= law.one && Integer.bitCount(set) > Integer.bitCount(best)) {
                    best = set;
                }
            }
            return best;
        }

        int nearest(Law law, int n) {
            int best = 0;
            for (int set = 1; set < 1 << law.jurors; set++) {
                if (Integer.bitCount(set) == n && (best == 0 || apart(set) < apart(best))) {
                    best = set;
                }
            }
            return best;
        }

        /** Weights are parts of 12 for each JUROR of a set: all let go, all hold. */
        void weigh(Law law) {
            letGoWeight[0] = 1;
            holdWeight[0] = 1;
            for (int set = 1; set < 1 << law.jurors; set++) {
                int hands = law.hands[Integer.numberOfTrailingZeros(set)];
                int others = set & set - 1;
                letGoWeight[set] = letGoWeight[others] * (HANDS_IN_ALL - hands);
                holdWeight[set] = holdWeight[others] * hands;
            }
        }

        private long freeWeight(int sitters, int one) {
            long weight = 0;
            for (int set = sitters; set > 0; set = set - 1 & sitters) {
                if (apart(set) <= one) {
                    weight += letGoWeight[set] * holdWeight[sitters ^ set];
                }
            }
            return weight;
        }

        int likeliest(Law law, int n) {
            int best = 0;
            long most = -1;
            for (int set = 1; set < 1 << law.jurors; set++) {
                if (Integer.bitCount(set) == n) {
                    long weight = freeWeight(set, law.one);
                    if (weight > most) {
                        most = weight;
                        best = set;
                    }
                }
            }
            return best;
        }

        /** The fraction's number above (0) or below (1) in least terms. */
        long partOfFreeWeight(int sitters, int one, int what) {
            long above = freeWeight(sitters, one);
            long below = 1;
            for (int i = 0; i < Integer.bitCount(sitters); i++) {
                below *= HANDS_IN_ALL;
            }
            long divisor = commonDivisor(above, below);
            if (divisor == 0) {
                return 0;
            }
            return (what == 0 ? above : below) / divisor;
        }

        private static long commonDivisor(long a, long b) {
            long more = a;
            long less = b;
            for (int i = 0; i < 200 && less != 0; i++) {
                long rest = more % less;
                more = less;
                less = rest;
            }
            return more;
        }

        int hear(int sitters, int lowest, int highest) {
            int many = 0;
            for (int j = 0; j < MOST_JURORS; j++) {
                heardWith[j] = 0;
            }
            for (int set = sitters; set > 0; set = set - 1 & sitters) {
                if (low[set] == lowest && high[set] == highest) {
                    many++;
                    for (int j = 0; j < MOST_JURORS; j++) {
                        heardWith[j] += set >> j & 1;
                    }
                }
            }
            return many;
        }

        int inAllHeard(int many) {
            int all = 0;
            for (int j = 0; j < MOST_JURORS; j++) {
                if (heardWith[j] == many) {
                    all |= 1 << j;
                }
            }
            return all;
        }

        int inHalfHeard(int sitters, int many) {
            int best = NONE;
            int bestOff = 0;
            for (int j = 0; j < MOST_JURORS; j++) {
                int off = Math.abs(2 * heardWith[j] - many);
                if ((sitters >> j & 1) != 0 && (best == NONE || off < bestOff)) {
                    best = j;
                    bestOff = off;
                }
            }
            return best;
        }

        /** Sets go upwards, so that what is left of a set by one strike is judged ahead of it. */
        void judgeStrikes(int sitters, int n, int one) {
            int all = Integer.bitCount(sitters);
            for (int set = 1; set <= sitters; set++) {
                int left = Integer.bitCount(set);
                if ((set & ~sitters) == 0 && left >= n) {
                    boolean firstSide = (all - left) % 2 == 0;
                    frees[set] = left == n ? apart(set) <= one : freesByStrike(set, firstSide);
                }
            }
        }

        private boolean freesByStrike(int set, boolean wantsFree) {
            for (int j = 0; j < MOST_JURORS; j++) {
                if ((set >> j & 1) != 0 && frees[set ^ 1 << j] == wantsFree) {
                    return wantsFree;
                }
            }
            return !wantsFree;
        }

        int firstStruck(int sitters) {
            for (int j = 0; j < MOST_JURORS; j++) {
                boolean sits = (sitters >> j & 1) != 0;
                if (sits && (!frees[sitters] || frees[sitters ^ 1 << j])) {
                    return j;
                }
            }
            return NONE;
        }

        /** Only who drops and has dents is tried: nobody else is in a set of the fewest. */
        int fewestBeaten(Law law, Standing standing, int droppers, int floor) {
            int dented = 0;
            for (int j = 0; j < law.jurors; j++) {
                if ((droppers >> j & 1) != 0 && standing.dents[j] > 0) {
                    dented |= 1 << j;
                }
            }
            int best = NONE;
            for (int set = 0; set <= dented; set++) {
                boolean fewer = best == NONE || Integer.bitCount(set) < Integer.bitCount(best);
                if ((set & ~dented) == 0 && fewer && standing.apart(law, droppers, floor, set) <= law.one) {
                    best = set;
                }
            }
            return best;
        }
    }

    /** How all stood ahead of the latest acts; the oldest gives way to one more than are kept. */
    private static final class History {
        int kept;
        private int next;
        private final Standing[] stood = new Standing[ACTS_KEPT];

        History() {
            for (int i = 0; i < ACTS_KEPT; i++) {
                stood[i] = new Standing();
            }
        }

        void keep(Standing standing) {
            stood[next].copyFrom(standing);
            next = (next + 1) % ACTS_KEPT;
            kept = Math.min(ACTS_KEPT, kept + 1);
        }

        void takeBack(Standing standing) {
            next = (next + ACTS_KEPT - 1) % ACTS_KEPT;
            kept--;
            standing.copyFrom(stood[next]);
        }

        void forget() {
            kept = 0;
        }
    }

    /** An image. */
    private static final class Kept {
        boolean filled;
        final Law law = new Law();
        final Standing standing = new Standing();
        final Saying saying = new Saying();
    }
}
