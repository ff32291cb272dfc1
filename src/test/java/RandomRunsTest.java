import java.nio.charset.StandardCharsets;
import java.util.NoSuchElementException;
import java.util.Random;

/** Random runs of calls, each answer compared with what the plain court answers. */
public final class RandomRunsTest {
    private static final int RUNS = Integer.getInteger("runs", 600);
    private static final int FIRST = Integer.getInteger("first", 0);
    private static final int CALLS = 500;
    private static final long THROWS = Long.MIN_VALUE;

    private final Check check;
    private final Random random;
    private final RandomTexts texts;
    private final LidCourt x = new LidCourt();
    private final PlainCourt plain = new PlainCourt();
    private final int run;

    private RandomRunsTest(Check check, int run) {
        this.check = check;
        this.run = run;
        random = new Random(run);
        texts = new RandomTexts(random);
    }

    private int some(int most) {
        return random.nextInt(20) == 0 ? random.nextInt(5) == 0 ? random.nextInt() : -1 : random.nextInt(most + 1);
    }

    private int juror() {
        return some(Math.max(0, x.count(0) - (random.nextInt(6) == 0 ? 0 : 1)));
    }

    private int aCase() {
        return some(Math.max(0, x.count(2) - (random.nextInt(6) == 0 ? 0 : 1)));
    }

    private void same(String call, Check.Call got, Check.Call want) {
        long theirs = answerOf(want);
        long ours = answerOf(got);
        check.due("run " + run + ": " + call, ours, theirs);
    }

    private static long answerOf(Check.Call call) {
        try {
            return call.answer();
        } catch (NoSuchElementException e) {
            return THROWS;
        }
    }

    private void lay(String text) {
        byte[] bytes = text.getBytes(StandardCharsets.ISO_8859_1);
        int before = x.count(5);
        for (int i = 0; i < bytes.length; i += 20) {
            int a = Check.four(bytes, i);
            int b = Check.four(bytes, i + 4);
            int c = Check.four(bytes, i + 8);
            int d = Check.four(bytes, i + 12);
            int e = Check.four(bytes, i + 16);
            same("feed", () -> x.feed(a, b, c, d, e), () -> plain.feed(a, b, c, d, e));
        }
        same("end", () -> x.end(before + bytes.length) ? 1 : 0, () -> plain.end(before + bytes.length) ? 1 : 0);
    }

    private void text(int kind, int most) {
        texts.know(plain.world);
        String text = kind == 0 ? texts.court() : kind == 1 ? texts.book() : texts.sentence();
        for (int i = random.nextInt(4) == 0 ? 1 + random.nextInt(3) : 0; i > 0; i--) {
            text = texts.broken(text, most);
        }
        lay(text);
        int lives = random.nextInt(12) == 0 ? some(3) : random.nextInt(2);
        if (kind == 0) {
            same("court() of '" + text + "'", x::court, plain::court);
        } else if (kind == 1) {
            same("book(" + lives + ") of '" + text + "'", () -> x.book(lives), () -> plain.book(lives));
            int what = some(4);
            same("told(" + what + ")", () -> x.told(what), () -> plain.told(what));
        } else {
            same("sentence() of '" + text + "'", x::sentence, plain::sentence);
            same("said(-1)", () -> x.said(-1), () -> plain.said(-1));
        }
        same("fault()", x::fault, plain::fault);
    }

    private void hear() {
        int f = some(Math.max(1, x.count(1)) - random.nextInt(2));
        int many = Math.max(1, x.count(0));
        int j = random.nextInt(many);
        int k = random.nextInt(many);
        int low = random.nextInt(5) == 0 ? some(80) : Math.min(x.ring(j, f), x.ring(k, f));
        int high = random.nextInt(5) == 0 ? some(80) : Math.max(x.ring(j, f), x.ring(k, f));
        String text = "" + (char) (f & 255) + (char) (low & 255) + (char) (high & 255);
        lay(random.nextInt(20) == 0 ? text + "a" : text);
        same("heard() of " + f + " " + low + " " + high, x::heard, plain::heard);
        same("surely()", x::surely, () -> plain.surely);
        same("ask()", x::ask, () -> plain.ask);
    }

    private void act() {
        int j = juror();
        int c = aCase();
        switch (random.nextInt(9)) {
            case 0:
                same("sit(" + j + ")", () -> x.sit(j), () -> plain.sit(j));
                break;
            case 1:
                same("rise(" + j + ")", () -> x.rise(j), () -> plain.rise(j));
                break;
            case 2:
                same("hold(" + j + ")", () -> x.hold(j), () -> plain.hold(j));
                break;
            case 3:
                same("drop(" + j + ")", () -> x.drop(j), () -> plain.drop(j));
                break;
            case 4:
                same("beat(" + j + ")", () -> x.beat(j), () -> plain.beat(j));
                break;
            case 5:
            case 6:
                same("tryCase(" + c + ")", () -> x.tryCase(c), () -> plain.tryCase(c));
                break;
            case 7:
                same("appeal(" + c + ")", () -> x.appeal(c), () -> plain.appeal(c));
                break;
            default: {
                int n = random.nextInt(4) == 0 ? some(62) : 1;
                same("days(" + n + ")", () -> x.days(n), () -> plain.days(n));
                break;
            }
        }
    }

    private void wouldBe() {
        int c = aCase();
        int f = some(random.nextInt(6) == 0 ? 4 : Math.max(0, x.count(1) - 1));
        int n = some(random.nextInt(6) == 0 ? 11 : x.count(0));
        int what = random.nextInt(10) == 0 ? some(3) : random.nextInt(2);
        switch (random.nextInt(9)) {
            case 0:
                same("verdict(" + c + ")", () -> x.verdict(c), () -> plain.verdict(c));
                break;
            case 1:
                same("spread(" + c + ")", () -> x.spread(c), () -> plain.spread(c));
                break;
            case 2:
                same("longest(" + c + ")", () -> x.longest(c), () -> plain.longest(c));
                break;
            case 3:
                same("agree(" + f + ")", () -> x.agree(f), () -> plain.agree(f));
                same("agreed()", x::agreed, () -> plain.agreed);
                break;
            case 4:
                same("jury(" + c + ", " + n + ")", () -> x.jury(c, n), () -> plain.jury(c, n));
                same("jurors()", x::jurors, () -> plain.jurors);
                break;
            case 5:
                same("likely(" + c + ", " + what + ")", () -> x.likely(c, what), () -> plain.likely(c, what));
                break;
            case 6:
                if (x.count(0) < 9 || random.nextInt(40) == 0) {
                    same("panel(" + c + ", " + n + ", " + what + ")", () -> x.panel(c, n, what), () -> plain.panel(c, n, what));
                    same("panelled()", x::panelled, () -> plain.panelled);
                }
                break;
            case 7:
                same("strikes(" + c + ", " + n + ")", () -> x.strikes(c, n), () -> plain.strikes(c, n));
                same("struck()", x::struck, () -> plain.struck);
                break;
            default:
                same("beats(" + c + ")", () -> x.beats(c), () -> plain.beats(c));
                same("beating()", x::beating, () -> plain.beating);
                break;
        }
    }

    private void look() {
        int j = juror();
        int c = aCase();
        int f = some(4);
        int what = some(8);
        switch (random.nextInt(8)) {
            case 0:
                same("juror(" + j + ", " + what + ")", () -> x.juror(j, what), () -> plain.juror(j, what));
                break;
            case 1:
                same("trial(" + c + ", " + what + ")", () -> x.trial(c, what), () -> plain.trial(c, what));
                break;
            case 2:
                same("ring(" + j + ", " + f + ")", () -> x.ring(j, f), () -> plain.ring(j, f));
                break;
            case 3:
                same("lasts(" + j + ", " + f + ")", () -> x.lasts(j, f), () -> plain.lasts(j, f));
                break;
            case 4:
                same("now(" + what + ")", () -> x.now(what), () -> plain.now(what));
                break;
            case 5:
                same("count(" + what + ")", () -> x.count(what), () -> plain.count(what));
                break;
            case 6:
                same("roll(" + c + ")", () -> x.roll(c), () -> plain.roll(c));
                for (int i = -1; i < 25; i++) {
                    int at = i;
                    same("byteAt(" + i + ")", () -> x.byteAt(at), () -> plain.byteAt(at));
                }
                break;
            default:
                same("said(" + what + ")", () -> x.said(what), () -> plain.said(what));
                break;
        }
    }

    private void draw() {
        int c = aCase();
        int n = some(61);
        int few = some(31);
        int seed = random.nextInt();
        if (random.nextBoolean()) {
            same("drawn(" + few / 4 + ", " + seed + ")", () -> x.drawn(few / 4, seed), () -> plain.drawn(few / 4, seed));
        } else if (random.nextInt(4) == 0) {
            same("drawn(" + n + ", " + seed + ")", () -> x.drawn(n, seed), () -> plain.drawn(n, seed));
        } else {
            same("odds(" + c + ", " + few + ", " + seed + ")", () -> x.odds(c, few, seed), () -> plain.odds(c, few, seed));
        }
    }

    private void keep() {
        int k = some(2);
        int n = some(400);
        switch (random.nextInt(6)) {
            case 0:
                same("image(" + k + ")", () -> x.image(k) ? 1 : 0, () -> plain.image(k) ? 1 : 0);
                break;
            case 1:
                same("restore(" + k + ")", () -> x.restore(k) ? 1 : 0, () -> plain.restore(k) ? 1 : 0);
                break;
            case 2:
                same("end(" + n + ")", () -> x.end(n) ? 1 : 0, () -> plain.end(n) ? 1 : 0);
                break;
            case 3:
                same("feed", () -> x.feed(n, -1, 0x20202020, 0x0a3b3c41, n), () -> plain.feed(n, -1, 0x20202020, 0x0a3b3c41, n));
                break;
            default:
                same("undo()", x::undo, plain::undo);
                break;
        }
    }

    private void allThatIsSo() {
        for (int what = -1; what < 9; what++) {
            int w = what;
            same("now(" + w + ") at last", () -> x.now(w), () -> plain.now(w));
            same("count(" + w + ") at last", () -> x.count(w), () -> plain.count(w));
            same("told(" + w + ") at last", () -> x.told(w), () -> plain.told(w));
            same("said(" + w + ") at last", () -> x.said(w), () -> plain.said(w));
            for (int i = -1; i < 11; i++) {
                int k = i;
                same("juror at last", () -> x.juror(k, w), () -> plain.juror(k, w));
                same("trial at last", () -> x.trial(k, w), () -> plain.trial(k, w));
                same("ring at last", () -> x.ring(k, w), () -> plain.ring(k, w));
                same("lasts at last", () -> x.lasts(k, w), () -> plain.lasts(k, w));
            }
        }
    }

    private void go() {
        text(0, 900);
        for (int i = 0; i < CALLS / 4; i++) {
            int kind = random.nextInt(100);
            if (kind < 3) {
                text(0, 900);
            } else if (kind < 9) {
                text(1, 400);
            } else if (kind < 14) {
                text(2, 200);
            } else if (kind < 19) {
                hear();
            } else if (kind < 49) {
                act();
            } else if (kind < 69) {
                wouldBe();
            } else if (kind < 87) {
                look();
            } else if (kind < 92) {
                draw();
            } else {
                keep();
            }
        }
        allThatIsSo();
    }

    public static void main(String[] args) {
        Check check = new Check("RandomRunsTest");
        for (int run = FIRST; run < FIRST + RUNS; run++) {
            new RandomRunsTest(check, run).go();
        }
        check.close();
    }
}
