import java.util.ArrayList;
import java.util.List;
import java.util.Random;

/** Texts for random runs: most as told, some broken a little. */
final class RandomTexts {
    private static final String[] ODD = {
        ";", "<", "=", ">", "(", ")", ".", "A", "juror", "seated", "floor", "case", "tuned", "one", "dent", "sits",
        "rises", "holds", "drops", "beaten", "try", "appeal", "day", "or", "and", "not", "sitting", "holding",
        "dented", "rings", "pitch", "length", "dents", "number", "0", "1", "7", "12", "13", "20", "21", "60", "61",
        "999", "1000", "007", "a1", "1a", "abcdefg", "abcdefgh", "zz", "\t", "\u00e9", "\0", "j0", "ja", "fa", "ca"
    };

    private final Random random;
    private final List<String> jurors = new ArrayList<>();
    private final List<String> floors = new ArrayList<>();
    private final List<String> cases = new ArrayList<>();

    RandomTexts(Random random) {
        this.random = random;
    }

    /** Texts behind this use the NAMES of this COURT. */
    void know(PlainCourt.World world) {
        jurors.clear();
        floors.clear();
        cases.clear();
        world.jurors.forEach(j -> jurors.add(j.name));
        world.floors.forEach(f -> floors.add(f.name()));
        world.cases.forEach(c -> cases.add(c.name));
    }

    private String pick(List<String> names, String prefix) {
        if (names.isEmpty() || random.nextInt(100) == 0) {
            return prefix + (char) ('a' + random.nextInt(11));
        }
        return names.get(random.nextInt(names.size()));
    }

    String court() {
        jurors.clear();
        floors.clear();
        cases.clear();
        List<String> lines = new ArrayList<>();
        boolean full = random.nextInt(5) == 0;
        boolean bare = random.nextInt(20) == 0;
        int manyJurors = full ? 10 + random.nextInt(12) / 11 : bare ? random.nextInt(2) : 1 + random.nextInt(7);
        int manyFloors = full ? 4 + random.nextInt(15) / 14 : bare ? random.nextInt(2) : 1 + random.nextInt(3);
        int manyCases = full ? 5 + random.nextInt(15) / 14 : manyFloors == 0 ? 0 : 1 + random.nextInt(3);
        int base = 1 + random.nextInt(40);
        int wide = 1 + random.nextInt(20);
        boolean easy = random.nextInt(3) == 0;
        for (int i = 0; i < manyJurors; i++) {
            String name = "j" + (char) ('a' + i);
            jurors.add(name);
            int hands = easy ? random.nextInt(4) : random.nextInt(13);
            lines.add("juror " + name + " " + (base + random.nextInt(wide)) + " " + (1 + random.nextInt(20)) + " " + hands
                + (random.nextInt(3) > 0 ? " seated" : ""));
        }
        for (int i = 0; i < manyFloors; i++) {
            String name = "f" + (char) ('a' + i);
            floors.add(name);
            lines.add("floor " + name + " " + random.nextInt(21) + " " + random.nextInt(21));
        }
        for (int i = 0; i < manyCases; i++) {
            String name = "c" + (char) ('a' + i);
            cases.add(name);
            lines.add("case " + name + " " + pick(floors, "f"));
        }
        int off = random.nextInt(3);
        for (int i = 0; i < Math.min(manyJurors, manyFloors * 2) && random.nextInt(4) > 0; i++) {
            String floor = floors.get(random.nextInt(40) == 0 ? 0 : (i + off) % manyFloors);
            lines.add("tuned " + jurors.get(random.nextInt(40) == 0 ? 0 : i) + " " + floor + " "
                + (base + random.nextInt(wide)));
        }
        if (random.nextInt(3) > 0) {
            lines.add("one " + random.nextInt(random.nextInt(4) == 0 ? 21 : 6));
        }
        if (random.nextInt(3) > 0) {
            lines.add("dent " + random.nextInt(random.nextInt(3) == 0 ? 10 : 4));
        }
        return joined(lines);
    }

    private String joined(List<String> lines) {
        StringBuilder text = new StringBuilder();
        for (String line : lines) {
            text.append(line).append(random.nextInt(4) == 0 ? " ;" : ";").append(random.nextInt(4) == 0 ? "\n" : "");
        }
        return text.toString();
    }

    String book() {
        List<String> lines = new ArrayList<>();
        int many = random.nextInt(30) == 0 ? 38 + random.nextInt(5) : random.nextInt(9);
        for (int i = 0; i < many; i++) {
            switch (random.nextInt(6)) {
                case 0:
                    lines.add("try " + pick(cases, "c"));
                    break;
                case 1:
                    lines.add("appeal " + pick(cases, "c"));
                    break;
                case 2:
                    lines.add("day " + (random.nextInt(4) == 0 ? 1 + random.nextInt(60) : 1));
                    break;
                default:
                    lines.add(pick(jurors, "j") + " "
                        + new String[] {"sits", "rises", "holds", "drops", "beaten"}[random.nextInt(5)]);
                    break;
            }
        }
        return joined(lines);
    }

    String sentence() {
        return cond(random.nextInt(8) == 0 ? 9 : 3);
    }

    private String cond(int depth) {
        StringBuilder text = new StringBuilder(one(depth));
        for (int i = random.nextInt(random.nextInt(25) == 0 ? 20 : 3); i > 0; i--) {
            text.append(random.nextBoolean() ? " and " : " or ").append(one(depth));
        }
        return text.toString();
    }

    private String one(int depth) {
        int kind = random.nextInt(depth > 0 ? 10 : 6);
        switch (kind) {
            case 0:
                return "sitting";
            case 1:
                return "holding";
            case 2:
                return "dented";
            case 3:
                return "rings " + pick(floors, "f") + " " + pick(jurors, "j");
            case 4:
            case 5:
                return new String[] {"pitch", "length", "dents", "number"}[random.nextInt(4)]
                    + new String[] {"<", " = ", ">"}[random.nextInt(3)] + random.nextInt(25);
            case 6:
            case 7:
                return "not " + one(depth - 1);
            default:
                return random.nextInt(3) == 0 ? "(" + cond(depth - 1) + ")" : "(" + one(depth - 1) + ")";
        }
    }

    /** Breaks a text a little. */
    String broken(String text, int most) {
        switch (random.nextInt(9)) {
            case 8: {
                // A LINE told again, so that another break may meet its FAULT.
                String[] lines = text.split("(?<=;)");
                return text + lines[random.nextInt(lines.length)];
            }
            case 7: {
                int at = random.nextInt(text.length() + 1);
                return text.substring(0, at) + "0123456789abcfjz".charAt(random.nextInt(16)) + text.substring(at);
            }
            case 6: {
                String[] words = text.split("(?<=[ ;()\n])");
                int at = random.nextInt(words.length);
                words[at] = words[at].replaceAll("[0-9]+", "" + random.nextInt(70));
                return String.join("", words);
            }
            case 0:
                return text.substring(0, random.nextInt(text.length() + 1));
            case 1: {
                int at = random.nextInt(text.length() + 1);
                return text.substring(0, at) + " " + ODD[random.nextInt(ODD.length)] + " " + text.substring(at);
            }
            case 2: {
                String[] words = text.split("(?<=[ ;()\n])");
                int at = random.nextInt(words.length);
                words[at] = ODD[random.nextInt(ODD.length)] + " ";
                return String.join("", words);
            }
            case 3: {
                String[] words = text.split("(?<=[ ;()\n])");
                words[random.nextInt(words.length)] = "";
                return String.join("", words);
            }
            case 4: {
                int more = most - text.length() - 3 + random.nextInt(8);
                return more < 0 ? text : random.nextBoolean() ? " ".repeat(more) + text : text + " ".repeat(more);
            }
            default: {
                int at = text.isEmpty() ? 0 : random.nextInt(text.length());
                return text.isEmpty() ? " " : text.substring(0, at) + (char) random.nextInt(256) + text.substring(at + 1);
            }
        }
    }
}
