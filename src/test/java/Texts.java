import java.util.ArrayList;
import java.util.Collections;
import java.util.List;
import java.util.Random;

/** Texts by chance: most of them whole, some spoilt. */
final class Texts {
    private final Random r;

    Texts(Random r) {
        this.r = r;
    }

    private String blanks() {
        return r.nextInt(12) == 0 ? " ".repeat(1 + r.nextInt(2)) : "";
    }

    private String item(char letter, int value) {
        return letter + blanks() + (value < 10 && r.nextInt(12) == 0 ? "0" : "") + value + blanks();
    }

    String room() {
        int w = 1 + r.nextInt(5), h = 1 + r.nextInt(4);
        List<String> clauses = new ArrayList<>();
        if (w != 4 || h != 3 || r.nextBoolean()) {
            clauses.add("s" + blanks() + shuffled(
                item('w', w), item('h', h), r.nextBoolean() ? item('l', r.nextInt(100)) : "",
                r.nextBoolean() ? item('m', r.nextInt(4) == 0 ? r.nextInt(10) : r.nextInt(3)) : ""));
        }
        List<int[]> sides = new ArrayList<>();
        for (int s = 0; s < w * h; s++) {
            if (s % w + 1 < w) {
                sides.add(new int[] {s, 0});
            }
            if (s / w + 1 < h) {
                sides.add(new int[] {s, 1});
            }
        }
        Collections.shuffle(sides, r);
        int many = r.nextInt(11);
        for (int i = 0; i < many && i < sides.size(); i++) {
            clauses.add("c" + blanks() + shuffled(
                item('a', sides.get(i)[0]), item('d', sides.get(i)[1]),
                r.nextBoolean() ? item('v', r.nextInt(10)) : "",
                r.nextBoolean() ? item('k', 1 + (r.nextBoolean() ? r.nextInt(12) : r.nextInt(99))) : "",
                r.nextBoolean() ? item('g', r.nextInt(10)) : "",
                r.nextBoolean() ? item('o', r.nextInt(2)) : ""));
        }
        int people = 1 + r.nextInt(6);
        for (int i = 0; i < people; i++) {
            clauses.add("p" + blanks() + shuffled(item('c', r.nextInt(w * h)), r.nextBoolean() ? item('m', 1 + r.nextInt(9)) : ""));
        }
        Collections.shuffle(clauses, r);
        return blanks() + String.join(";" + blanks(), clauses);
    }

    private String shuffled(String... items) {
        List<String> all = new ArrayList<>(List.of(items));
        Collections.shuffle(all, r);
        return String.join("", all);
    }

    String law() {
        int clauses = 1 + r.nextInt(4);
        StringBuilder text = new StringBuilder(blanks());
        for (int i = 0; i < clauses; i++) {
            text.append(i > 0 ? ";" : "").append(blanks()).append("y").append(blanks()).append(":").append(blanks());
            if (r.nextInt(3) > 0) {
                text.append(condition(3)).append("?").append(blanks());
            }
            text.append(sum(3));
        }
        return text.length() > 240 ? law() : text.toString();
    }

    private String condition(int depth) {
        StringBuilder text = new StringBuilder(unit(depth));
        for (int more = r.nextInt(3); more > 0; more--) {
            text.append(r.nextBoolean() ? "|" : "&").append(blanks()).append(unit(depth));
        }
        return text.toString();
    }

    private String unit(int depth) {
        int kind = depth == 0 ? 5 : r.nextInt(6);
        if (kind == 0) {
            return "!" + blanks() + unit(depth - 1);
        }
        if (kind == 1) {
            return "(" + condition(depth - 1) + ")" + blanks();
        }
        return sum(depth) + "=<>".charAt(r.nextInt(3)) + blanks() + sum(depth);
    }

    private String sum(int depth) {
        StringBuilder text = new StringBuilder(atom(depth));
        for (int more = r.nextInt(3); more > 0; more--) {
            text.append("+-*/".charAt(r.nextInt(4))).append(blanks()).append(atom(depth));
        }
        return text.toString();
    }

    private String atom(int depth) {
        int kind = depth == 0 ? 1 + r.nextInt(5) : r.nextInt(6);
        if (kind == 0) {
            return "[" + blanks() + sum(depth - 1) + "]" + blanks();
        }
        if (kind < 3) {
            return (r.nextInt(4) == 0 ? r.nextInt(10000) : r.nextInt(40)) + blanks();
        }
        return "vkglyc".charAt(r.nextInt(6)) + blanks();
    }

    /** One or more signs are lost, changed, doubled or put in. */
    String spoilt(String text, String signs) {
        StringBuilder s = new StringBuilder(text);
        for (int times = 1 + r.nextInt(2); times > 0; times--) {
            int at = r.nextInt(s.length() + 1);
            char sign = r.nextInt(30) == 0 ? (char) (1 + r.nextInt(255)) : signs.charAt(r.nextInt(signs.length()));
            switch (r.nextInt(4)) {
                case 0:
                    s.insert(at, sign);
                    break;
                case 1:
                    s.setLength(Math.max(1, at));
                    break;
                case 2:
                    if (at < s.length()) {
                        s.setCharAt(at, sign);
                    }
                    break;
                default:
                    if (at < s.length() && s.length() > 1) {
                        s.deleteCharAt(at);
                    }
            }
        }
        return s.toString();
    }
}
