import java.util.ArrayList;
import java.util.Collections;
import java.util.List;
import java.util.Random;

/** Texts for random runs: most as told, some broken a little. */
final class RandomTexts {
    private static final String[] ODD = {
        ";", "<", "=", ">", "(", ")", ".", "A", "juror", "seated", "floor", "case", "tuned", "one", "dent", "sits",
        "rises", "holds", "drops", "beaten", "try", "appeal", "day", "or", "and", "not", "sitting", "holding",
        "dented", "rings", "pitch", "length", "dents", "number", "0", "1", "7", "12", "13", "20", "21", "60", "61",
        "999", "1000", "007", "a1", "1a", "abcdefg", "abcdefgh", "zz", "\t", "\u00e9", "\0", "j0", "ja", "fa", "ca"
    };

    /** Where the WORDS that are no NAMES stand in ODD. */
    private static final int FIRST_WORD = 8;
    private static final int WORDS = 26;

    private final Random random;
    private final List<String> jurors = new ArrayList<>();
    private final List<String> floors = new ArrayList<>();
    private final List<String> cases = new ArrayList<>();

    RandomTexts(Random random) {
        this.random = random;
    }

    /** Texts behind this use the NAMES of this COURT. */
    void know(PlainCourt.World world) {
        jurors.clear();
        floors.clear();
        cases.clear();
        world.jurors.forEach(j -> jurors.add(j.name));
        world.floors.forEach(f -> floors.add(f.name()));
        world.cases.forEach(c -> cases.add(c.name));
    }

    private String pick(List<String> names, String prefix) {
        if (names.isEmpty() || random.nextInt(100) == 0) {
            return prefix + (char) ('a' + random.nextInt(11));
        }
        return names.get(random.nextInt(names.size()));
    }

    String court() {
        jurors.clear();
        floors.clear();
        cases.clear();
        List<String> lines = new ArrayList<>();
        boolean full = random.nextInt(5) == 0;
        boolean bare = random.nextInt(20) == 0;
        int manyJurors = full ? 10 + random.nextInt(12) / 11 : bare ? random.nextInt(2) : 1 + random.nextInt(7);
        int manyFloors = full ? 4 + random.nextInt(15) / 14 : bare ? random.nextInt(2) : 1 + random.nextInt(3);
        int manyCases = full ? 5 + random.nextInt(15) / 14 : manyFloors == 0 ? 0 : 1 + random.nextInt(3);
        int base = 1 + random.nextInt(40);
        int wide = 1 + random.nextInt(20);
        boolean easy = random.nextInt(3) == 0;
        boolean named = random.nextInt(3) == 0;
        for (int i = 0; i < manyJurors; i++) {
            String name = named ? anyName() : "j" + (char) ('a' + i);
            jurors.add(name);
            int hands = easy ? random.nextInt(4) : random.nextInt(13);
            lines.add("juror " + name + " " + (base + random.nextInt(wide)) + " " + (1 + random.nextInt(20)) + " " + hands
                + (random.nextInt(3) > 0 ? " seated" : ""));
        }
        for (int i = 0; i < manyFloors; i++) {
            String name = named ? anyName() : "f" + (char) ('a' + i);
            floors.add(name);
            lines.add("floor " + name + " " + random.nextInt(21) + " " + random.nextInt(21));
        }
        for (int i = 0; i < manyCases; i++) {
            String name = named ? anyName() : "c" + (char) ('a' + i);
            cases.add(name);
            lines.add("case " + name + " " + pick(floors, "f"));
        }
        int off = random.nextInt(3);
        for (int i = 0; i < Math.min(manyJurors, manyFloors * 2) && random.nextInt(4) > 0; i++) {
            String floor = floors.get(random.nextInt(40) == 0 ? 0 : (i + off) % manyFloors);
            lines.add("tuned " + jurors.get(random.nextInt(40) == 0 ? 0 : i) + " " + floor + " "
                + (base + random.nextInt(wide)));
        }
        if (random.nextInt(3) > 0) {
            lines.add("one " + random.nextInt(random.nextInt(4) == 0 ? 21 : 6));
        }
        if (random.nextInt(3) > 0) {
            lines.add("dent " + random.nextInt(random.nextInt(3) == 0 ? 10 : 4));
        }
        if (random.nextInt(3) == 0) {
            mix(lines);
        }
        return joined(lines);
    }

    /** Of 1 to 7 letters, most not told yet, some all but a WORD that is no NAME. */
    private String anyName() {
        String name;
        do {
            if (random.nextInt(4) == 0) {
                String word = ODD[FIRST_WORD + random.nextInt(WORDS)];
                int cut = random.nextInt(word.length());
                name = random.nextBoolean() && word.length() < 7 ? word + (char) ('a' + random.nextInt(26))
                    : cut == 0 ? "q" + word.substring(1) : word.substring(0, cut);
            } else {
                StringBuilder letters = new StringBuilder();
                for (int i = random.nextInt(7); i >= 0; i--) {
                    letters.append((char) ('a' + random.nextInt(random.nextBoolean() ? 2 : 26)));
                }
                name = letters.toString();
            }
        } while (random.nextInt(200) > 0 && (isTold(name) || PlainCourt.WORDS.contains(name)));
        return name;
    }

    private boolean isTold(String name) {
        return jurors.contains(name) || floors.contains(name) || cases.contains(name);
    }

    /** Other LINES ahead of others: most so that each NAME is told ahead of its use still. */
    private void mix(List<String> lines) {
        if (random.nextInt(12) == 0) {
            Collections.shuffle(lines, random);
            return;
        }
        for (int i = 0; i < 200 && lines.size() > 1; i++) {
            int at = random.nextInt(lines.size() - 1);
            if (!usesNameOf(lines.get(at + 1), lines.get(at))) {
                Collections.swap(lines, at, at + 1);
            }
        }
    }

    private static boolean usesNameOf(String later, String earlier) {
        boolean tells = !earlier.startsWith("tuned ") && !earlier.startsWith("one ") && !earlier.startsWith("dent ");
        return tells && (later + " ").indexOf(" " + earlier.split(" ")[1] + " ") >= 0;
    }

    private String joined(List<String> lines) {
        StringBuilder text = new StringBuilder();
        for (String line : lines) {
            text.append(line).append(random.nextInt(4) == 0 ? " ;" : ";").append(random.nextInt(4) == 0 ? "\n" : "");
        }
        return text.toString();
    }

    String book() {
        List<String> lines = new ArrayList<>();
        int many = random.nextInt(30) == 0 ? 38 + random.nextInt(5) : random.nextInt(9);
        for (int i = 0; i < many; i++) {
            switch (random.nextInt(6)) {
                case 0:
                    lines.add("try " + pick(cases, "c"));
                    break;
                case 1:
                    lines.add("appeal " + pick(cases, "c"));
                    break;
                case 2:
                    lines.add("day " + (random.nextInt(4) == 0 ? 1 + random.nextInt(60) : 1));
                    break;
                default:
                    lines.add(pick(jurors, "j") + " "
                        + new String[] {"sits", "rises", "holds", "drops", "beaten"}[random.nextInt(5)]);
                    break;
            }
        }
        return joined(lines);
    }

    String sentence() {
        return cond(random.nextInt(8) == 0 ? 9 : 3);
    }

    private String cond(int depth) {
        StringBuilder text = new StringBuilder(one(depth));
        for (int i = random.nextInt(random.nextInt(25) == 0 ? 20 : 3); i > 0; i--) {
            text.append(random.nextBoolean() ? " and " : " or ").append(one(depth));
        }
        return text.toString();
    }

    private String one(int depth) {
        int kind = random.nextInt(depth > 0 ? 10 : 6);
        switch (kind) {
            case 0:
                return "sitting";
            case 1:
                return "holding";
            case 2:
                return "dented";
            case 3:
                return "rings " + pick(floors, "f") + " " + pick(jurors, "j");
            case 4:
            case 5:
                return new String[] {"pitch", "length", "dents", "number"}[random.nextInt(4)]
                    + new String[] {"<", " = ", ">"}[random.nextInt(3)] + random.nextInt(25);
            case 6:
            case 7:
                return "not " + one(depth - 1);
            default:
                return random.nextInt(3) == 0 ? "(" + cond(depth - 1) + ")" : "(" + one(depth - 1) + ")";
        }
    }

    /** Breaks a text a little. */
    String broken(String text, int most) {
        switch (random.nextInt(9)) {
            case 8: {
                // A LINE told again, so that another break may meet its FAULT.
                String[] lines = text.split("(?<=;)");
                return text + lines[random.nextInt(lines.length)];
            }
            case 7: {
                int at = random.nextInt(text.length() + 1);
                return text.substring(0, at) + "0123456789abcfjz".charAt(random.nextInt(16)) + text.substring(at);
            }
            case 6: {
                String[] words = text.split("(?<=[ ;()\n])");
                int at = random.nextInt(words.length);
                words[at] = words[at].replaceAll("[0-9]+", "" + random.nextInt(70));
                return String.join("", words);
            }
            case 0:
                return text.substring(0, random.nextInt(text.length() + 1));
            case 1: {
                int at = random.nextInt(text.length() + 1);
                return text.substring(0, at) + " " + ODD[random.nextInt(ODD.length)] + " " + text.substring(at);
            }
            case 2: {
                String[] words = text.split("(?<=[ ;()\n])");
                int at = random.nextInt(words.length);
                words[at] = ODD[random.nextInt(ODD.length)] + " ";
                return String.join("", words);
            }
            case 3: {
                String[] words = text.split("(?<=[ ;()\n])");
                words[random.nextInt(words.length)] = "";
                return String.join("", words);
            }
            case 4: {
                int more = most - text.length() - 3 + random.nextInt(8);
                return more < 0 ? text : random.nextBoolean() ? " ".repeat(more) + text : text + " ".repeat(more);
            }
            default: {
                int at = text.isEmpty() ? 0 : random.nextInt(text.length());
                return text.isEmpty() ? " " : text.substring(0, at) + (char) random.nextInt(256) + text.substring(at + 1);
            }
        }
    }
}
