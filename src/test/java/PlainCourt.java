import java.math.BigInteger;
import java.util.ArrayDeque;
import java.util.ArrayList;
import java.util.Arrays;
import java.util.Deque;
import java.util.HashMap;
import java.util.HashSet;
import java.util.List;
import java.util.Map;
import java.util.NoSuchElementException;
import java.util.Set;
import java.util.TreeSet;
import java.util.function.BiPredicate;
import java.util.regex.Matcher;
import java.util.regex.Pattern;

/** The document once more, as plainly as can be, with the whole library: what random runs are compared with. */
final class PlainCourt {
    static final int NONE = -1;

    static final class Fault extends RuntimeException {
        private static final long serialVersionUID = 1L;
        final int kind;
        final int at;

        Fault(int kind, int at) {
            this.kind = kind;
            this.at = at;
        }
    }

    record Token(String sort, String text, int at) { }

    static final class Juror {
        String name;
        int pitch;
        int length;
        int hands;
        boolean sits;
        boolean holds;
        int dents;
        int dropped;
    }

    static final class Trial {
        String name;
        int floor;
        int how;
        int day = NONE;
        Set<Integer> dropped = new TreeSet<>();
        Set<Integer> held = new TreeSet<>();
    }

    record Floor(String name, int tune, int dull) { }

    static final class World {
        List<Juror> jurors = new ArrayList<>();
        List<Floor> floors = new ArrayList<>();
        List<Trial> cases = new ArrayList<>();
        Map<String, Integer> tuned = new HashMap<>();
        int one = 3;
        int dent = 1;
        int day;
        int trials;
        int lastTrialDay = NONE;

        World copy() {
            World w = new World();
            for (Juror j : jurors) {
                Juror k = new Juror();
                k.name = j.name;
                k.pitch = j.pitch;
                k.length = j.length;
                k.hands = j.hands;
                k.sits = j.sits;
                k.holds = j.holds;
                k.dents = j.dents;
                k.dropped = j.dropped;
                w.jurors.add(k);
            }
            w.floors.addAll(floors);
            for (Trial c : cases) {
                Trial d = new Trial();
                d.name = c.name;
                d.floor = c.floor;
                d.how = c.how;
                d.day = c.day;
                d.dropped.addAll(c.dropped);
                d.held.addAll(c.held);
                w.cases.add(d);
            }
            w.tuned.putAll(tuned);
            w.one = one;
            w.dent = dent;
            w.day = day;
            w.trials = trials;
            w.lastTrialDay = lastTrialDay;
            return w;
        }

        int ring(int j, int f, boolean dents) {
            Juror juror = jurors.get(j);
            Floor floor = floors.get(f);
            int bare = tuned.getOrDefault(juror.name + " " + floor.name, juror.pitch + floor.tune);
            int ring = dents ? bare - dent * juror.dents : bare;
            return ring < 0 ? 0 : ring;
        }

        int lasts(int j, int f) {
            int lasts = jurors.get(j).length - floors.get(f).dull;
            return lasts < 1 ? 1 : lasts;
        }

        int apart(List<Integer> who, int f) {
            List<Integer> rings = new ArrayList<>();
            for (int j : who) {
                rings.add(ring(j, f, true));
            }
            return rings.stream().max(Integer::compare).orElseThrow() - rings.stream().min(Integer::compare).orElseThrow();
        }

        boolean isOneRing(List<Integer> who, int f) {
            return !who.isEmpty() && apart(who, f) <= one;
        }

        List<Integer> droppers() {
            List<Integer> who = new ArrayList<>();
            for (int j = 0; j < jurors.size(); j++) {
                if (jurors.get(j).sits && !jurors.get(j).holds) {
                    who.add(j);
                }
            }
            return who;
        }

        List<Integer> sitters() {
            List<Integer> who = new ArrayList<>();
            for (int j = 0; j < jurors.size(); j++) {
                if (jurors.get(j).sits) {
                    who.add(j);
                }
            }
            return who;
        }

        int act(String verb, int who) {
            switch (verb) {
                case "sits":
                    if (jurors.get(who).sits) {
                        return 1;
                    }
                    jurors.get(who).sits = true;
                    return 0;
                case "rises":
                    if (!jurors.get(who).sits) {
                        return 1;
                    }
                    jurors.get(who).sits = false;
                    return 0;
                case "holds":
                    if (jurors.get(who).holds) {
                        return 1;
                    }
                    jurors.get(who).holds = true;
                    return 0;
                case "drops":
                    if (!jurors.get(who).holds) {
                        return 1;
                    }
                    jurors.get(who).holds = false;
                    return 0;
                case "beaten":
                    if (jurors.get(who).dents == 0) {
                        return 1;
                    }
                    jurors.get(who).dents = 0;
                    return 0;
                case "try":
                    return tryCase(cases.get(who));
                case "appeal":
                    return appeal(cases.get(who));
                case "day":
                    if (day + who > 400) {
                        return 1;
                    }
                    for (int i = 0; i < who; i++) {
                        nextDay();
                    }
                    return 0;
                default:
                    throw new IllegalStateException(verb);
            }
        }

        int tryCase(Trial c) {
            if (c.how != 0) {
                return 1;
            }
            if (lastTrialDay == day) {
                return 2;
            }
            List<Integer> who = droppers();
            if (who.isEmpty()) {
                return 3;
            }
            c.how = isOneRing(who, c.floor) ? 1 : 2;
            c.day = day;
            c.dropped = new TreeSet<>(who);
            c.held = new TreeSet<>(sitters());
            c.held.removeAll(who);
            for (int j : who) {
                jurors.get(j).dents = Math.min(20, jurors.get(j).dents + 1);
                jurors.get(j).dropped++;
            }
            lastTrialDay = day;
            trials++;
            return 0;
        }

        int appeal(Trial c) {
            if (c.how == 0) {
                return 1;
            }
            if (c.held.isEmpty()) {
                return 2;
            }
            c.how = 0;
            return 0;
        }

        boolean nextDay() {
            if (day == 400) {
                return false;
            }
            day++;
            for (Juror j : jurors) {
                j.holds = false;
            }
            return true;
        }

        int draw(int n, int seed) {
            int[] x = {seed};
            for (int i = 0; i < n; i++) {
                if (day == 400) {
                    return i;
                }
                for (Juror j : jurors) {
                    j.holds = drawOf(x, 12) < j.hands;
                }
                if (!cases.isEmpty()) {
                    tryCase(cases.get(drawOf(x, cases.size())));
                }
                if (drawOf(x, 6) == 0) {
                    jurors.get(drawOf(x, jurors.size())).dents = 0;
                }
                nextDay();
            }
            return n;
        }

        static int drawOf(int[] x, int n) {
            x[0] = x[0] * 1103515245 + 12345;
            return (x[0] >>> 8) % n;
        }

        int indexOf(String sort, String name) {
            int n = sort.equals("juror") ? jurors.size() : sort.equals("floor") ? floors.size() : cases.size();
            for (int i = 0; i < n; i++) {
                String told = sort.equals("juror") ? jurors.get(i).name
                    : sort.equals("floor") ? floors.get(i).name() : cases.get(i).name;
                if (told.equals(name)) {
                    return i;
                }
            }
            return NONE;
        }
    }

    static final Set<String> WORDS = new HashSet<>(Arrays.asList((
        "juror seated floor case tuned one dent sits rises holds drops beaten try appeal day "
        + "or and not sitting holding dented rings pitch length dents number").split(" ")));

    World world = new World();
    BiPredicate<World, Integer> saying;
    StringBuilder tape = new StringBuilder();
    int fault;
    int agreed = NONE;
    int jurors = NONE;
    int panelled = NONE;
    int surely = NONE;
    int ask = NONE;
    int struck = NONE;
    int beating = NONE;
    String roll = "";
    int[] told;
    Deque<World> acts = new ArrayDeque<>();
    World[] keptWorlds = new World[2];
    @SuppressWarnings({"unchecked", "rawtypes"})
    BiPredicate<World, Integer>[] keptSayings = new BiPredicate[2];

    // ---- the tape and its TOKENS

    private List<Token> tokens;
    private int place;
    private int onesRead;

    private static List<Token> tokensOf(String text, int most) {
        List<Token> tokens = new ArrayList<>();
        Matcher run = Pattern.compile("[a-z0-9]+").matcher(text);
        int at = 0;
        while (true) {
            while (at < text.length() && (text.charAt(at) == 32 || text.charAt(at) == 10)) {
                at++;
            }
            if (text.length() > most && at >= most) {
                tokens.add(new Token("none", "", most));
                return tokens;
            }
            if (at == text.length()) {
                tokens.add(new Token("end", "", at));
                return tokens;
            }
            String piece = run.find(at) && run.start() == at ? run.group() : text.substring(at, at + 1);
            String sort = piece.matches("[a-z]{1,7}") ? "word" : piece.matches("[0-9]{1,3}") ? "number"
                : piece.matches("[;<=>()]") ? "sign" : "none";
            tokens.add(new Token(sort, piece, at));
            if (sort.equals("none")) {
                return tokens;
            }
            at += piece.length();
        }
    }

    private void startReading(int most) {
        tokens = tokensOf(tape.toString(), most);
        tape.setLength(0);
        place = 0;
        fault = 0;
    }

    private Token token() {
        return tokens.get(place);
    }

    private boolean comes(String text) {
        return token().text.equals(text);
    }

    private void need(boolean so, int kind) {
        if (!so) {
            fault = kind;
            throw new Fault(kind, token().at);
        }
    }

    private void eat(String text) {
        need(comes(text), 1);
        place++;
    }

    private int eatNumber(int least, int most) {
        need(token().sort.equals("number"), 1);
        int n = Integer.parseInt(token().text);
        need(n >= least && n <= most, 2);
        place++;
        return n;
    }

    private String name() {
        need(token().sort.equals("word") && !WORDS.contains(token().text), 1);
        return token().text;
    }

    private int eatKnown(World w, String sort) {
        int i = w.indexOf(sort, name());
        need(i != NONE, 3);
        place++;
        return i;
    }

    private String eatNew(World w) {
        String name = name();
        need(w.indexOf("juror", name) == NONE && w.indexOf("floor", name) == NONE && w.indexOf("case", name) == NONE, 3);
        place++;
        return name;
    }

    int feed(int a, int b, int c, int d, int e) {
        if (tape.length() > 920) {
            return NONE;
        }
        for (int n : new int[] {a, b, c, d, e}) {
            tape.append((char) (n >> 24 & 255)).append((char) (n >> 16 & 255)).append((char) (n >> 8 & 255))
                .append((char) (n & 255));
        }
        return tape.length();
    }

    boolean end(int n) {
        if (n < 0 || n > tape.length()) {
            return false;
        }
        tape.setLength(n);
        return true;
    }

    int court() {
        World w = new World();
        Set<String> once = new HashSet<>();
        int lines = 0;
        try {
            for (startReading(900); !token().sort.equals("end"); lines++) {
                courtLine(w, once);
            }
        } catch (Fault f) {
            return -1 - f.at;
        }
        world = w;
        saying = null;
        acts.clear();
        return lines;
    }

    private void courtLine(World w, Set<String> once) {
        Token first = token();
        need(Arrays.asList("juror", "floor", "case", "tuned", "one", "dent").contains(first.text), 1);
        need(!once.contains(first.text), 3);
        need(!(comes("juror") && w.jurors.size() == 10), 4);
        need(!(comes("floor") && w.floors.size() == 4), 4);
        need(!(comes("case") && w.cases.size() == 5), 4);
        place++;
        switch (first.text) {
            case "juror": {
                Juror j = new Juror();
                j.name = eatNew(w);
                j.pitch = eatNumber(1, 60);
                j.length = eatNumber(1, 20);
                j.hands = eatNumber(0, 12);
                if (comes("seated")) {
                    j.sits = true;
                    place++;
                }
                w.jurors.add(j);
                break;
            }
            case "floor": {
                String name = eatNew(w);
                int tune = eatNumber(0, 20);
                w.floors.add(new Floor(name, tune, eatNumber(0, 20)));
                break;
            }
            case "case": {
                Trial c = new Trial();
                c.name = eatNew(w);
                c.floor = eatKnown(w, "floor");
                w.cases.add(c);
                break;
            }
            case "tuned": {
                int j = eatKnown(w, "juror");
                int f = eatKnown(w, "floor");
                String two = w.jurors.get(j).name + " " + w.floors.get(f).name();
                place--;
                need(!w.tuned.containsKey(two), 3);
                place++;
                w.tuned.put(two, eatNumber(0, 60));
                break;
            }
            case "one":
                w.one = eatNumber(0, 20);
                once.add("one");
                break;
            default:
                w.dent = eatNumber(0, 9);
                once.add("dent");
                break;
        }
        eat(";");
    }

    int fault() {
        return fault;
    }

    // ---- what is so

    int juror(int j, int what) {
        if (j < 0 || j >= world.jurors.size() || what < 0 || what > 6) {
            throw new NoSuchElementException();
        }
        Juror it = world.jurors.get(j);
        return new int[] {it.pitch, it.length, it.hands, it.sits ? 1 : 0, it.holds ? 1 : 0, it.dents, it.dropped}[what];
    }

    private static int bits(Iterable<Integer> set) {
        int bits = 0;
        for (int i : set) {
            bits |= 1 << i;
        }
        return bits;
    }

    private static List<Integer> listOf(int bits) {
        List<Integer> list = new ArrayList<>();
        for (int i = 0; i < 31; i++) {
            if ((bits & 1 << i) != 0) {
                list.add(i);
            }
        }
        return list;
    }

    int trial(int c, int what) {
        if (isNoCase(c) || what < 0 || what > 4) {
            throw new NoSuchElementException();
        }
        Trial it = world.cases.get(c);
        return new int[] {it.floor, it.how, it.day, bits(it.dropped), bits(it.held)}[what];
    }

    private boolean isNoCase(int c) {
        return c < 0 || c >= world.cases.size();
    }

    private boolean isNoFloor(int f) {
        return f < 0 || f >= world.floors.size();
    }

    private boolean isNoJuror(int j) {
        return j < 0 || j >= world.jurors.size();
    }

    int ring(int j, int f) {
        return isNoJuror(j) || isNoFloor(f) ? NONE : world.ring(j, f, true);
    }

    int lasts(int j, int f) {
        return isNoJuror(j) || isNoFloor(f) ? NONE : world.lasts(j, f);
    }

    int now(int what) {
        int holds = 0;
        int free = 0;
        int guilty = 0;
        int dents = 0;
        for (int j = 0; j < world.jurors.size(); j++) {
            holds += world.jurors.get(j).holds ? 1 << j : 0;
            dents += world.jurors.get(j).dents;
        }
        for (int c = 0; c < world.cases.size(); c++) {
            free += world.cases.get(c).how == 1 ? 1 << c : 0;
            guilty += world.cases.get(c).how == 2 ? 1 << c : 0;
        }
        int[] all = {world.day, bits(world.sitters()), holds, free, guilty, dents, world.trials,
            world.lastTrialDay == world.day ? 1 : 0};
        return what < 0 || what >= all.length ? NONE : all[what];
    }

    // ---- what is done

    private void keep(World before) {
        acts.push(before);
        if (acts.size() > 8) {
            acts.removeLast();
        }
    }

    private int act(String verb, int who) {
        World before = world.copy();
        int why = world.act(verb, who);
        if (why == 0) {
            keep(before);
        }
        return why;
    }

    int sit(int j) {
        return isNoJuror(j) ? NONE : act("sits", j);
    }

    int rise(int j) {
        return isNoJuror(j) ? NONE : act("rises", j);
    }

    int hold(int j) {
        return isNoJuror(j) ? NONE : act("holds", j);
    }

    int drop(int j) {
        return isNoJuror(j) ? NONE : act("drops", j);
    }

    int beat(int j) {
        return isNoJuror(j) ? NONE : act("beaten", j);
    }

    int tryCase(int c) {
        return isNoCase(c) ? NONE : act("try", c);
    }

    int appeal(int c) {
        return isNoCase(c) ? NONE : act("appeal", c);
    }

    int days(int n) {
        if (n < 1 || n > 60) {
            return NONE;
        }
        World before = world.copy();
        int went = 0;
        while (went < n && world.nextDay()) {
            went++;
        }
        if (went > 0) {
            keep(before);
        }
        return went;
    }

    int undo() {
        if (acts.isEmpty()) {
            return NONE;
        }
        world = acts.pop();
        return acts.size();
    }

    // ---- what would be

    int verdict(int c) {
        List<Integer> who = world.droppers();
        return isNoCase(c) || who.isEmpty() ? NONE : world.isOneRing(who, world.cases.get(c).floor) ? 1 : 0;
    }

    int spread(int c) {
        List<Integer> who = world.droppers();
        return isNoCase(c) || who.isEmpty() ? NONE : world.apart(who, world.cases.get(c).floor);
    }

    int longest(int c) {
        List<Integer> who = world.droppers();
        return isNoCase(c) || who.isEmpty() ? NONE
            : who.stream().mapToInt(j -> world.lasts(j, world.cases.get(c).floor)).max().orElseThrow();
    }

    int agree(int f) {
        if (world.jurors.isEmpty() || isNoFloor(f)) {
            return NONE;
        }
        for (int n = world.jurors.size(); n > 0; n--) {
            for (int set = 1; set < 1 << world.jurors.size(); set++) {
                if (listOf(set).size() == n && world.isOneRing(listOf(set), f)) {
                    agreed = set;
                    return n;
                }
            }
        }
        throw new IllegalStateException();
    }

    int jury(int c, int n) {
        if (isNoCase(c) || n < 1 || n > world.jurors.size()) {
            return NONE;
        }
        for (int apart = 0; apart < 1000; apart++) {
            for (int set = 1; set < 1 << world.jurors.size(); set++) {
                if (listOf(set).size() == n && world.apart(listOf(set), world.cases.get(c).floor) == apart) {
                    jurors = set;
                    return apart;
                }
            }
        }
        throw new IllegalStateException();
    }

    private BigInteger[] chance(List<Integer> sitters, int at, List<Integer> letGo, int floor) {
        if (at == sitters.size()) {
            return new BigInteger[] {world.isOneRing(letGo, floor) ? BigInteger.ONE : BigInteger.ZERO, BigInteger.ONE};
        }
        int j = sitters.get(at);
        BigInteger hands = BigInteger.valueOf(world.jurors.get(j).hands);
        BigInteger twelve = BigInteger.valueOf(12);
        List<Integer> more = new ArrayList<>(letGo);
        more.add(j);
        BigInteger[] held = chance(sitters, at + 1, letGo, floor);
        BigInteger[] went = chance(sitters, at + 1, more, floor);
        BigInteger above = held[0].multiply(hands).multiply(went[1])
            .add(went[0].multiply(twelve.subtract(hands)).multiply(held[1]));
        BigInteger below = twelve.multiply(held[1]).multiply(went[1]);
        BigInteger gcd = above.gcd(below);
        return new BigInteger[] {above.divide(gcd), below.divide(gcd)};
    }

    long likely(int c, int what) {
        if (isNoCase(c) || what < 0 || what > 1) {
            throw new NoSuchElementException();
        }
        return chance(world.sitters(), 0, new ArrayList<>(), world.cases.get(c).floor)[what].longValueExact();
    }

    long panel(int c, int n, int what) {
        if (isNoCase(c) || what < 0 || what > 1 || n < 1 || n > world.jurors.size()) {
            throw new NoSuchElementException();
        }
        BigInteger[] best = null;
        for (int set = 1; set < 1 << world.jurors.size(); set++) {
            if (listOf(set).size() == n) {
                BigInteger[] here = chance(listOf(set), 0, new ArrayList<>(), world.cases.get(c).floor);
                if (best == null || here[0].multiply(best[1]).compareTo(best[0].multiply(here[1])) > 0) {
                    best = here;
                    panelled = set;
                }
            }
        }
        return best[what].longValueExact();
    }

    int heard() {
        String text = tape.toString();
        tape.setLength(0);
        if (text.length() != 3 || isNoFloor(text.charAt(0))) {
            return NONE;
        }
        int f = text.charAt(0);
        List<Integer> sets = new ArrayList<>();
        int sitters = bits(world.sitters());
        for (int set = 1; set < 1024; set++) {
            if ((set & sitters) != set) {
                continue;
            }
            int low = 1000;
            int high = -1;
            for (int j : listOf(set)) {
                low = Math.min(low, world.ring(j, f, true));
                high = Math.max(high, world.ring(j, f, true));
            }
            if (low == text.charAt(1) && high == text.charAt(2)) {
                sets.add(set);
            }
        }
        if (!sets.isEmpty()) {
            surely = 1023;
            ask = NONE;
            int off = 5000;
            for (int set : sets) {
                surely &= set;
            }
            for (int j : world.sitters()) {
                long in = sets.stream().filter(s -> (s & 1 << j) != 0).count();
                int here = (int) Math.abs(in - (sets.size() - in));
                if (here < off) {
                    off = here;
                    ask = j;
                }
            }
        }
        return sets.size();
    }

    private boolean frees(Set<Integer> left, int n, int f, boolean firstSide, Map<Set<Integer>, Boolean> known) {
        if (left.size() == n) {
            return world.isOneRing(new ArrayList<>(left), f);
        }
        Boolean before = known.get(left);
        if (before != null) {
            return before;
        }
        boolean any = false;
        boolean all = true;
        for (int j : left) {
            Set<Integer> fewer = new TreeSet<>(left);
            fewer.remove(j);
            boolean free = frees(fewer, n, f, !firstSide, known);
            any |= free;
            all &= free;
        }
        known.put(left, firstSide ? any : all);
        return firstSide ? any : all;
    }

    int strikes(int c, int n) {
        List<Integer> sitters = world.sitters();
        if (isNoCase(c) || n < 1 || n > 10 || sitters.size() <= n) {
            return NONE;
        }
        int f = world.cases.get(c).floor;
        Map<Set<Integer>, Boolean> known = new HashMap<>();
        for (int j : sitters) {
            Set<Integer> fewer = new TreeSet<>(sitters);
            fewer.remove(j);
            if (frees(fewer, n, f, false, known)) {
                struck = j;
                return 1;
            }
        }
        struck = sitters.get(0);
        return 0;
    }

    int beats(int c) {
        List<Integer> who = world.droppers();
        if (isNoCase(c) || who.isEmpty()) {
            return NONE;
        }
        for (int n = 0; n <= world.jurors.size(); n++) {
            for (int set = 0; set < 1 << world.jurors.size(); set++) {
                if (listOf(set).size() == n) {
                    World w = world.copy();
                    for (int j : listOf(set)) {
                        w.jurors.get(j).dents = 0;
                    }
                    if (w.isOneRing(who, w.cases.get(c).floor)) {
                        beating = set;
                        return n;
                    }
                }
            }
        }
        return NONE;
    }

    int roll(int c) {
        if (isNoCase(c)) {
            return NONE;
        }
        Trial it = world.cases.get(c);
        roll = it.name + " is " + (it.how == 0 ? "open" : (it.how == 1 ? "free" : "guilty") + " by " + it.dropped.size());
        return roll.length();
    }

    int byteAt(int i) {
        return i < 0 || i >= roll.length() ? NONE : roll.charAt(i);
    }

    int drawn(int n, int seed) {
        if (n < 1 || n > 60 || world.jurors.isEmpty()) {
            return NONE;
        }
        World before = world.copy();
        int went = world.draw(n, seed);
        if (went > 0) {
            keep(before);
        }
        return went;
    }

    int odds(int c, int n, int seed) {
        if (isNoCase(c) || n < 1 || n > 30 || world.jurors.isEmpty()) {
            return NONE;
        }
        int free = 0;
        for (int i = 0; i < n; i++) {
            World w = world.copy();
            w.draw(20, seed + i);
            free += w.cases.get(c).how == 1 ? 1 : 0;
        }
        return free;
    }

    // ---- BOOK and SENTENCE

    int book(int lives) {
        if (lives < 0 || lives > 1) {
            return -1000;
        }
        List<String> verbs = new ArrayList<>();
        List<Integer> whom = new ArrayList<>();
        try {
            for (startReading(400); !token().sort.equals("end");) {
                bookLine(verbs, whom);
            }
        } catch (Fault f) {
            return -2 - f.at;
        }
        World w = world.copy();
        List<String> all = Arrays.asList("sits", "rises", "holds", "drops", "beaten", "try", "appeal", "day");
        int wrong = NONE;
        int why = 0;
        for (int i = 0; i < verbs.size() && wrong == NONE; i++) {
            why = w.act(verbs.get(i), whom.get(i));
            if (why != 0) {
                wrong = i;
                why += 10 * all.indexOf(verbs.get(i));
            }
        }
        int free = 0;
        for (int c = 0; c < w.cases.size(); c++) {
            free += w.cases.get(c).how == 1 ? 1 << c : 0;
        }
        told = new int[] {why, wrong == NONE ? verbs.size() : wrong, w.day, free};
        if (lives == 1) {
            keep(world);
            world = w;
        }
        return wrong;
    }

    private void bookLine(List<String> verbs, List<Integer> whom) {
        boolean full = verbs.size() == 40;
        String first = token().text;
        if (first.equals("day") || first.equals("try") || first.equals("appeal")) {
            need(!full, 4);
            place++;
            verbs.add(first);
            whom.add(first.equals("day") ? eatNumber(1, 60) : eatKnown(world, "case"));
        } else {
            int j = world.indexOf("juror", name());
            need(j != NONE, 3);
            need(!full, 4);
            place++;
            need(Arrays.asList("sits", "rises", "holds", "drops", "beaten").contains(token().text), 1);
            verbs.add(token().text);
            whom.add(j);
            place++;
        }
        eat(";");
    }

    int told(int what) {
        return told == null || what < 0 || what > 3 ? NONE : told[what];
    }

    int sentence() {
        onesRead = 0;
        try {
            startReading(200);
            BiPredicate<World, Integer> read = cond(1);
            need(token().sort.equals("end"), 1);
            saying = read;
            return onesRead;
        } catch (Fault f) {
            return -1 - f.at;
        }
    }

    private BiPredicate<World, Integer> cond(int depth) {
        BiPredicate<World, Integer> read = all(depth);
        while (comes("or")) {
            place++;
            read = read.or(all(depth));
        }
        return read;
    }

    private BiPredicate<World, Integer> all(int depth) {
        BiPredicate<World, Integer> read = one(depth);
        while (comes("and")) {
            place++;
            read = read.and(one(depth));
        }
        return read;
    }

    private BiPredicate<World, Integer> one(int depth) {
        String first = token().text;
        need(Arrays.asList("not", "(", "sitting", "holding", "dented", "rings", "pitch", "length", "dents", "number")
            .contains(first), 1);
        need(++onesRead <= 20 && depth <= 8, 4);
        place++;
        switch (first) {
            case "not":
                return one(depth + 1).negate();
            case "(": {
                BiPredicate<World, Integer> read = cond(depth + 1);
                eat(")");
                return read;
            }
            case "sitting":
                return (w, j) -> w.jurors.get(j).sits;
            case "holding":
                return (w, j) -> w.jurors.get(j).holds;
            case "dented":
                return (w, j) -> w.jurors.get(j).dents != 0;
            case "rings": {
                int f = eatKnown(world, "floor");
                int other = eatKnown(world, "juror");
                return (w, j) -> w.isOneRing(Arrays.asList(j, other), f);
            }
            default:
                return comparison(first);
        }
    }

    private BiPredicate<World, Integer> comparison(String what) {
        need(comes("<") || comes("=") || comes(">"), 1);
        String sign = token().text;
        place++;
        int n = eatNumber(0, 999);
        return (w, j) -> {
            Juror it = w.jurors.get(j);
            int his = what.equals("pitch") ? it.pitch : what.equals("length") ? it.length
                : what.equals("dents") ? it.dents : j;
            return sign.equals("<") ? his < n : sign.equals(">") ? his > n : his == n;
        };
    }

    int said(int k) {
        if (saying == null) {
            return NONE;
        }
        List<Integer> of = new ArrayList<>();
        for (int j = 0; j < world.jurors.size(); j++) {
            if (saying.test(world, j)) {
                of.add(j);
            }
        }
        return k == NONE ? of.size() : k < 0 || k >= of.size() ? NONE : of.get(k);
    }

    boolean image(int k) {
        if (k < 0 || k > 1) {
            return false;
        }
        keptWorlds[k] = world.copy();
        keptSayings[k] = saying;
        return true;
    }

    boolean restore(int k) {
        if (k < 0 || k > 1 || keptWorlds[k] == null) {
            return false;
        }
        world = keptWorlds[k].copy();
        saying = keptSayings[k];
        acts.clear();
        return true;
    }

    int count(int what) {
        int[] all = {world.jurors.size(), world.floors.size(), world.cases.size(), world.one, world.dent, tape.length()};
        return what < 0 || what >= all.length ? NONE : all[what];
    }
}
