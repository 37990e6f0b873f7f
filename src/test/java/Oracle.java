import java.util.ArrayList;
import java.util.HashSet;
import java.util.List;
import java.util.NoSuchElementException;
import java.util.Set;
import java.util.TreeSet;
import java.util.regex.Matcher;
import java.util.regex.Pattern;

/** The document once more, in the slowest and most literal way, to hold the class against. */
final class Oracle {
    static final class Curtain implements Cloneable {
        int one, other, veil, cloth, gap;
        boolean back;

        boolean fallen() {
            return cloth == 0;
        }

        boolean hangs() {
            return !back && cloth > 0;
        }

        Curtain copy() {
            try {
                return (Curtain) clone();
            } catch (CloneNotSupportedException e) {
                throw new IllegalStateException(e);
            }
        }
    }

    /** All that an ACT may change. */
    static final class World {
        List<Curtain> curtains = new ArrayList<>();
        List<Integer> places = new ArrayList<>();
        List<int[]> log = new ArrayList<>();
        int year;

        World copy() {
            World w = new World();
            for (Curtain c : curtains) {
                w.curtains.add(c.copy());
            }
            w.places.addAll(places);
            w.log.addAll(log);
            w.year = year;
            return w;
        }
    }

    String tape = "";
    boolean there = false;
    int width, height, light, moths;
    List<Integer> mights = new ArrayList<>();
    World now = new World();
    List<World> past = new ArrayList<>();
    World image = null;
    List<String> laws = new ArrayList<>();
    int holds = -1;
    int heat = 0;
    int[] status = new int[5];
    List<int[]> faded = new ArrayList<>();

    // ---- texts

    int feed(int a, int b, int c, int d, int e) {
        StringBuilder more = new StringBuilder(tape);
        for (int word : new int[] {a, b, c, d, e}) {
            for (byte part : new byte[] {(byte) (word >> 24), (byte) (word >> 16), (byte) (word >> 8), (byte) word}) {
                if (part != 0) {
                    more.append((char) (part & 255));
                }
            }
        }
        if (more.length() > 240) {
            return -1;
        }
        tape = more.toString();
        return tape.length();
    }

    boolean end(int n) {
        if (n < 0 || n > tape.length()) {
            return false;
        }
        tape = tape.substring(0, n);
        return true;
    }

    int fault(int sort) {
        return sort == 0 ? roomFault(tape, null) : sort == 1 ? lawFault(tape) : -2;
    }

    private static final Pattern ROOM = Pattern.compile(clause() + "(; *" + clause().substring(2) + ")*");

    private static String clause() {
        return " *(s *([whlm] *\\d{1,2} *)*|c *([advkgo] *\\d{1,2} *)*|p *([cm] *\\d{1,2} *)*)";
    }

    private static int[] boundsOf(char clause, char item) {
        switch ("" + clause + item) {
            case "sw": return new int[] {1, 5, 4};
            case "sh": return new int[] {1, 4, 3};
            case "sl": return new int[] {0, 99, 40};
            case "sm": return new int[] {0, 9, 1};
            case "ca": return new int[] {0, 19, 0};
            case "cd": return new int[] {0, 1, 0};
            case "cv": return new int[] {0, 9, 5};
            case "ck": return new int[] {1, 99, 30};
            case "cg": return new int[] {0, 9, 1};
            case "co": return new int[] {0, 1, 0};
            case "pc": return new int[] {0, 19, 0};
            case "pm": return new int[] {1, 9, 3};
            default: throw new IllegalStateException();
        }
    }

    /** The first byte behind which the grammar alone has no way on, or the length. */
    private static int shapeFault(String text) {
        for (int i = 0; i < text.length(); i++) {
            Matcher m = ROOM.matcher(text.substring(0, i + 1));
            if (!m.matches() && !m.hitEnd()) {
                return i;
            }
        }
        return ROOM.matcher(text).matches() ? -1 : text.length();
    }

    private int roomFault(String text, List<String[]> clausesOut) {
        int shape = shapeFault(text);
        int stop = shape < 0 ? text.length() : shape;
        int earliest = shape < 0 ? Integer.MAX_VALUE : shape;
        int[] had = new int[3];
        List<int[]> told = new ArrayList<>();
        List<Character> kinds = new ArrayList<>();
        char clause = 0;
        Set<Character> letters = new HashSet<>();
        boolean clauseNext = true;
        for (int i = 0; i < stop; i++) {
            char sign = text.charAt(i);
            if (sign == ' ') {
                continue;
            }
            if (sign == ';') {
                clauseNext = true;
            } else if (clauseNext) {
                clauseNext = false;
                int kind = "scp".indexOf(sign);
                had[kind]++;
                if (had[kind] > new int[] {1, 10, 6}[kind]) {
                    earliest = Math.min(earliest, i);
                }
                clause = sign;
                letters.clear();
                int[] items = new int[128];
                String all = new String[] {"whlm", "advkgo", "cm"}[kind];
                for (char item : all.toCharArray()) {
                    items[item] = boundsOf(sign, item)[2];
                }
                told.add(items);
                kinds.add(sign);
            } else if (Character.isLetter(sign)) {
                if (!letters.add(sign)) {
                    earliest = Math.min(earliest, i);
                }
                int from = i + 1;
                while (from < text.length() && text.charAt(from) == ' ') {
                    from++;
                }
                int to = from;
                while (to < text.length() && to < from + 3 && Character.isDigit(text.charAt(to))) {
                    to++;
                }
                // With a third digit the shape's own fault is the one that counts.
                if (to > from && to < from + 3) {
                    int value = Integer.parseInt(text.substring(from, to));
                    int[] bounds = boundsOf(clause, sign);
                    if (value < bounds[0] || value > bounds[1]) {
                        earliest = Math.min(earliest, to - 1);
                    }
                    told.get(told.size() - 1)[sign] = value;
                }
            }
        }
        if (earliest != Integer.MAX_VALUE) {
            return earliest;
        }
        return stands(told, kinds, clausesOut != null) ? -1 : text.length();
    }

    private boolean stands(List<int[]> told, List<Character> kinds, boolean enter) {
        int w = 4, h = 3, l = 40, m = 1;
        for (int i = 0; i < told.size(); i++) {
            if (kinds.get(i) == 's') {
                w = told.get(i)['w'];
                h = told.get(i)['h'];
                l = told.get(i)['l'];
                m = told.get(i)['m'];
            }
        }
        World world = new World();
        List<Integer> newMights = new ArrayList<>();
        Set<String> sides = new HashSet<>();
        for (int i = 0; i < told.size(); i++) {
            int[] item = told.get(i);
            if (kinds.get(i) == 'c') {
                int x = item['a'] % w, y = item['a'] / w;
                int x2 = item['d'] == 0 ? x + 1 : x, y2 = item['d'] == 0 ? y : y + 1;
                if (y >= h || x2 >= w || y2 >= h || !sides.add(x + "," + y + "," + x2 + "," + y2)) {
                    return false;
                }
                Curtain c = new Curtain();
                c.one = item['a'];
                c.other = y2 * w + x2;
                c.veil = item['v'];
                c.cloth = item['k'];
                c.gap = item['g'];
                c.back = item['o'] == 1;
                world.curtains.add(c);
            } else if (kinds.get(i) == 'p') {
                if (item['c'] >= w * h) {
                    return false;
                }
                world.places.add(item['c']);
                newMights.add(item['m']);
            }
        }
        if (newMights.isEmpty()) {
            return false;
        }
        if (enter) {
            width = w;
            height = h;
            light = l;
            moths = m;
            now = world;
            mights = newMights;
            there = true;
            past.clear();
            image = null;
            faded.clear();
        }
        return true;
    }

    // LAWS: every way to read is tried; the FAULT is the furthest byte that any of them stumbled over.
    private String law;
    private int furthest;

    private int lawFault(String text) {
        law = text;
        furthest = 0;
        Set<Integer> ends = clauses();
        for (int at : ends) {
            if (blanks(at) == text.length()) {
                return -1;
            }
            furthest = Math.max(furthest, blanks(at));
        }
        return furthest;
    }

    private int blanks(int at) {
        int to = at;
        while (to < law.length() && law.charAt(to) == ' ') {
            to++;
        }
        return to;
    }

    private Set<Integer> sign(Set<Integer> froms, String signs) {
        Set<Integer> ends = new TreeSet<>();
        for (int from : froms) {
            int at = blanks(from);
            if (at < law.length() && signs.indexOf(law.charAt(at)) >= 0) {
                ends.add(at + 1);
            } else {
                furthest = Math.max(furthest, at);
            }
        }
        return ends;
    }

    private Set<Integer> clauses() {
        Set<Integer> all = new TreeSet<>();
        Set<Integer> starts = Set.of(0);
        while (!starts.isEmpty()) {
            Set<Integer> body = sign(sign(starts, "y"), ":");
            Set<Integer> ends = sum(body, 0);
            ends.addAll(sum(sign(condition(body, 0), "?"), 0));
            all.addAll(ends);
            starts = sign(ends, ";");
        }
        return all;
    }

    private Set<Integer> condition(Set<Integer> from, int depth) {
        return chain(from, depth, "|", 0);
    }

    private Set<Integer> sum(Set<Integer> from, int depth) {
        return chain(from, depth, "+-", 2);
    }

    private Set<Integer> part(Set<Integer> from, int depth, int level) {
        switch (level) {
            case 0: return chain(from, depth, "&", 1);
            case 1: return unit(from, depth);
            case 2: return chain(from, depth, "*/", 3);
            default: return atom(from, depth);
        }
    }

    private Set<Integer> chain(Set<Integer> from, int depth, String signs, int level) {
        Set<Integer> all = new TreeSet<>();
        Set<Integer> ends = part(from, depth, level);
        while (!ends.isEmpty()) {
            all.addAll(ends);
            Set<Integer> next = sign(ends, signs);
            ends = next.isEmpty() ? next : part(next, depth, level);
        }
        return all;
    }

    private Set<Integer> unit(Set<Integer> from, int depth) {
        Set<Integer> ends = new TreeSet<>();
        if (from.isEmpty()) {
            return ends;
        }
        if (depth < 6) {
            Set<Integer> not = sign(from, "!");
            if (!not.isEmpty()) {
                ends.addAll(unit(not, depth + 1));
            }
            Set<Integer> open = sign(from, "(");
            if (!open.isEmpty()) {
                ends.addAll(sign(condition(open, depth + 1), ")"));
            }
        }
        Set<Integer> compared = sign(sum(from, depth), "=<>");
        ends.addAll(sum(compared, depth));
        return ends;
    }

    private Set<Integer> atom(Set<Integer> froms, int depth) {
        Set<Integer> ends = new TreeSet<>();
        if (froms.isEmpty()) {
            return ends;
        }
        ends.addAll(sign(froms, "vkglyc"));
        if (depth < 6) {
            Set<Integer> open = sign(froms, "[");
            if (!open.isEmpty()) {
                ends.addAll(sign(sum(open, depth + 1), "]"));
            }
        }
        for (int from : froms) {
            int at = blanks(from);
            int to = at;
            while (to < law.length() && Character.isDigit(law.charAt(to))) {
                to++;
            }
            if (to - at > 4) {
                furthest = Math.max(furthest, at + 4);
            } else if (to > at) {
                ends.add(to);
            }
        }
        return ends;
    }

    int text(int sort) {
        if (sort == 0 && fault(0) == -1) {
            roomFault(tape, new ArrayList<>());
            tape = "";
            return width * height;
        }
        if (sort == 1 && fault(1) == -1 && laws.size() < 4) {
            laws.add(tape.replace(" ", ""));
            tape = "";
            return laws.size() - 1;
        }
        return -1;
    }

    // ---- WORTH, by cutting the text at its weakest sign

    private static int weakest(String s, String signs) {
        int depth = 0;
        for (int i = s.length() - 1; i >= 0; i--) {
            char sign = s.charAt(i);
            depth += sign == ')' || sign == ']' ? 1 : sign == '(' || sign == '[' ? -1 : 0;
            if (depth == 0 && signs.indexOf(sign) >= 0) {
                return i;
            }
        }
        return -1;
    }

    private long sumOf(String s, int[] letters) {
        int at = weakest(s, "+-");
        if (at < 0) {
            at = weakest(s, "*/");
        }
        if (at >= 0) {
            long left = sumOf(s.substring(0, at), letters);
            long right = sumOf(s.substring(at + 1), letters);
            long got;
            switch (s.charAt(at)) {
                case '+': got = left + right; break;
                case '-': got = left - right; break;
                case '*': got = left * right; break;
                default: got = right == 0 ? 0 : left / right;
            }
            return got > 1000000 ? 1000000 : got < -1000000 ? -1000000 : got;
        }
        if (s.charAt(0) == '[') {
            return sumOf(s.substring(1, s.length() - 1), letters);
        }
        int letter = "vkglyc".indexOf(s.charAt(0));
        return letter >= 0 ? letters[letter] : Long.parseLong(s);
    }

    private boolean holds(String s, int[] letters) {
        int at = weakest(s, "|");
        if (at >= 0) {
            return holds(s.substring(0, at), letters) | holds(s.substring(at + 1), letters);
        }
        at = weakest(s, "&");
        if (at >= 0) {
            return holds(s.substring(0, at), letters) & holds(s.substring(at + 1), letters);
        }
        if (s.charAt(0) == '!') {
            return !holds(s.substring(1), letters);
        }
        if (s.charAt(0) == '(') {
            return holds(s.substring(1, s.length() - 1), letters);
        }
        at = weakest(s, "=<>");
        long left = sumOf(s.substring(0, at), letters);
        long right = sumOf(s.substring(at + 1), letters);
        return s.charAt(at) == '=' ? left == right : s.charAt(at) == '<' ? left < right : left > right;
    }

    private int takes(World w, int c) {
        Curtain it = w.curtains.get(c);
        long worth = it.veil + it.cloth / 10;
        if (holds >= 0) {
            int[] letters = {it.veil, it.cloth, it.gap, light, w.year, c};
            worth = 0;
            for (String clause : laws.get(holds).split(";")) {
                String body = clause.substring(2);
                int ask = body.indexOf('?');
                if (ask < 0 || holds(body.substring(0, ask), letters)) {
                    worth = sumOf(body.substring(ask + 1), letters);
                    break;
                }
            }
        }
        return (int) (worth < 1 ? 1 : worth > 99 ? 99 : worth);
    }

    // ---- STATES and light

    private int squares() {
        return there ? width * height : 0;
    }

    private boolean square(int s) {
        return s >= 0 && s < squares();
    }

    private boolean curtainIs(int c) {
        return c >= 0 && c < now.curtains.size();
    }

    private boolean personIs(int p) {
        return p >= 0 && p < now.places.size();
    }

    private boolean beside(int a, int b) {
        return Math.abs(a % width - b % width) + Math.abs(a / width - b / width) == 1;
    }

    private int between(World w, int a, int b) {
        for (int c = 0; c < w.curtains.size(); c++) {
            Curtain it = w.curtains.get(c);
            if (it.one == a && it.other == b || it.one == b && it.other == a) {
                return c;
            }
        }
        return -1;
    }

    private Set<Integer> stateOf(World w, int s) {
        Set<Integer> in = new TreeSet<>();
        List<Integer> todo = new ArrayList<>(List.of(s));
        while (!todo.isEmpty()) {
            int a = todo.remove(0);
            if (!in.add(a)) {
                continue;
            }
            for (int b = 0; b < squares(); b++) {
                if (beside(a, b)) {
                    int c = between(w, a, b);
                    if (c < 0 || !w.curtains.get(c).hangs()) {
                        todo.add(b);
                    }
                }
            }
        }
        return in;
    }

    private static int bits(Iterable<Integer> all) {
        int found = 0;
        for (int i : all) {
            found |= 1 << i;
        }
        return found;
    }

    private int statesIn(World w) {
        Set<Integer> names = new HashSet<>();
        for (int s = 0; s < squares(); s++) {
            names.add(stateOf(w, s).iterator().next());
        }
        return names.size();
    }

    private int lordOf(World w, Set<Integer> in) {
        int best = -1;
        for (int p = w.places.size() - 1; p >= 0; p--) {
            if (in.contains(w.places.get(p)) && (best < 0 || mights.get(p) >= mights.get(best))) {
                best = p;
            }
        }
        return best;
    }

    private int[] bright(World w, int from, int n) {
        int many = squares();
        int[][] far = new int[many][many];
        for (int a = 0; a < many; a++) {
            for (int b = 0; b < many; b++) {
                far[a][b] = a == b ? 0 : 1000000;
                if (beside(a, b)) {
                    int c = between(w, a, b);
                    far[a][b] = 1 + (c >= 0 && w.curtains.get(c).hangs() ? takes(w, c) : 0);
                }
            }
        }
        for (int k = 0; k < many; k++) {
            for (int a = 0; a < many; a++) {
                for (int b = 0; b < many; b++) {
                    far[a][b] = Math.min(far[a][b], far[a][k] + far[k][b]);
                }
            }
        }
        int[] found = new int[many];
        for (int b = 0; b < many; b++) {
            found[b] = Math.max(0, n - far[from][b]);
        }
        return found;
    }

    int rule(int what) {
        return !there || what < 0 || what > 3 ? -1 : new int[] {width, height, light, moths}[what];
    }

    int curtain(int c, int what) {
        if (!curtainIs(c) || what < 0 || what > 7) {
            return -1;
        }
        Curtain it = now.curtains.get(c);
        return new int[] {it.one, it.other, it.veil, it.cloth, it.gap, it.back ? 1 : 0, it.hangs() ? 1 : 0, takes(now, c)}[what];
    }

    int person(int p, int what) {
        if (!personIs(p) || what < 0 || what > 3) {
            throw new NoSuchElementException();
        }
        Set<Integer> in = stateOf(now, now.places.get(p));
        return new int[] {now.places.get(p), mights.get(p), in.iterator().next(), lordOf(now, in) == p ? 1 : 0}[what];
    }

    boolean law(int n) {
        if (n < -1 || n >= laws.size()) {
            return false;
        }
        holds = n;
        return true;
    }

    int state(int s) {
        return square(s) ? stateOf(now, s).iterator().next() : -1;
    }

    int lord(int s) {
        return square(s) ? lordOf(now, stateOf(now, s)) : -1;
    }

    int lit(int s) {
        return square(s) ? bright(now, 0, light)[s] : -1;
    }

    int touch(int a, int b) {
        if (!square(a) || !square(b)) {
            return -1;
        }
        Set<Integer> one = stateOf(now, a), other = stateOf(now, b);
        for (Curtain c : now.curtains) {
            if (c.hangs() && !one.equals(other) && (one.contains(c.one) && other.contains(c.other)
                    || one.contains(c.other) && other.contains(c.one))) {
                return 1;
            }
        }
        return 0;
    }

    // ---- ACTS

    private int refuse(int why) {
        status[why]++;
        return -1;
    }

    private void act() {
        past.add(now.copy());
        if (past.size() > 40) {
            past.remove(0);
        }
    }

    private boolean right(World w, int p, int c) {
        Set<Integer> in = stateOf(w, w.places.get(p));
        return in.contains(w.curtains.get(c).one) || in.contains(w.curtains.get(c).other);
    }

    int pull(int p, int c, boolean back) {
        if (!personIs(p) || !curtainIs(c)) {
            return refuse(0);
        }
        if (!right(now, p, c) || now.curtains.get(c).back == back) {
            return refuse(2);
        }
        if (now.curtains.get(c).fallen()) {
            return refuse(3);
        }
        act();
        now.curtains.get(c).back = back;
        return statesIn(now);
    }

    int go(int p, int s) {
        if (!personIs(p) || !square(s)) {
            return refuse(0);
        }
        if (!stateOf(now, now.places.get(p)).contains(s) || now.places.get(p) == s) {
            return refuse(2);
        }
        act();
        now.places.set(p, s);
        return state(s);
    }

    int creep(int p, int c) {
        if (!personIs(p) || !curtainIs(c)) {
            return refuse(0);
        }
        Curtain it = now.curtains.get(c);
        int at = now.places.get(p);
        if (!it.hangs() || it.one != at && it.other != at || it.gap < mights.get(p)) {
            return refuse(2);
        }
        act();
        now.places.set(p, it.one + it.other - at);
        return now.places.get(p);
    }

    int mend(int c, int n) {
        if (!curtainIs(c)) {
            return refuse(0);
        }
        Curtain it = now.curtains.get(c);
        if (n < 1 || n > 9 || it.cloth + n > 99) {
            return refuse(1);
        }
        if (it.fallen()) {
            return refuse(3);
        }
        act();
        it = now.curtains.get(c);
        it.cloth += n;
        return it.cloth;
    }

    private int goBy(World w) {
        int[] lit = bright(w, 0, light);
        int fell = 0;
        for (int c = 0; c < w.curtains.size(); c++) {
            Curtain it = w.curtains.get(c);
            if (it.hangs()) {
                it.cloth -= moths;
                if (lit[it.one] >= 20 || lit[it.other] >= 20) {
                    it.cloth--;
                }
                if (it.cloth <= 0) {
                    it.cloth = 0;
                    fell |= 1 << c;
                }
            }
        }
        w.year++;
        return fell;
    }

    private void liveYear() {
        int fell = goBy(now);
        int all = 0;
        for (int b : bright(now, 0, light)) {
            all += b;
        }
        now.log.add(0, new int[] {statesIn(now), all, fell});
        if (now.log.size() > 60) {
            now.log.remove(60);
        }
    }

    int years(int n) {
        if (!there) {
            return refuse(0);
        }
        if (n < 1 || n > 60) {
            return refuse(1);
        }
        if (now.year + n > 999) {
            return refuse(4);
        }
        for (int i = 0; i < n; i++) {
            act();
            liveYear();
        }
        return now.year;
    }

    boolean heat(int v) {
        if (v < 0 || v > 99 || v == heat) {
            return false;
        }
        heat = v;
        return true;
    }

    private long x;

    private int draw(int m) {
        x = x * 6364136223846793005L + 1442695040888963407L;
        return (int) ((x >>> 33) % m);
    }

    int centuries(int n, long seed) {
        if (!there || n < 1 || n > 60 || now.year + n > 999) {
            return -1;
        }
        x = seed;
        for (int i = 0; i < n; i++) {
            act();
            if (draw(100) < heat) {
                for (Curtain c : now.curtains) {
                    c.back = true;
                }
            } else if (!now.curtains.isEmpty()) {
                Curtain c = now.curtains.get(draw(now.curtains.size()));
                if (!c.fallen()) {
                    c.back = !c.back;
                }
            }
            int p = draw(now.places.size());
            int s = draw(squares());
            if (stateOf(now, now.places.get(p)).contains(s)) {
                now.places.set(p, s);
            }
            liveYear();
        }
        return now.year;
    }

    int status(int what) {
        return what < 0 || what > 4 ? -1 : status[what];
    }

    int undo() {
        if (past.isEmpty()) {
            return -1;
        }
        now = past.remove(past.size() - 1);
        return past.size();
    }

    int log(int i, int what) {
        return i < 0 || i >= now.log.size() || what < 0 || what > 2 ? -1 : now.log.get(i)[what];
    }

    // ---- what would be

    private boolean subset(int set, int of) {
        return (set & of) == set;
    }

    private int all() {
        return (1 << squares()) - 1;
    }

    private World with(int set) {
        World w = now.copy();
        for (int c = 0; c < w.curtains.size(); c++) {
            if ((set >> c & 1) == 1) {
                w.curtains.get(c).back = !w.curtains.get(c).back;
            }
        }
        return w;
    }

    int join(int first, int others) {
        if (!there || first == 0 || !subset(first, all()) || !subset(others, all())) {
            return -1;
        }
        int many = now.curtains.size();
        for (int size = 0; size <= many; size++) {
            for (int set = 0; set < 1 << many; set++) {
                if (Integer.bitCount(set) == size && (set & count(9)) == 0) {
                    int in = bits(stateOf(with(set), Integer.numberOfTrailingZeros(first)));
                    if (subset(first, in) && (others & in) == 0) {
                        return set;
                    }
                }
            }
        }
        return -1;
    }

    int hide(int a, int b, int n) {
        if (!square(a) || !square(b) || n < 1 || n > 99) {
            return -1;
        }
        int many = now.curtains.size();
        for (int size = 0; size <= many; size++) {
            for (int set = 0; set < 1 << many; set++) {
                if (Integer.bitCount(set) == size && subset(set, gathered()) && bright(with(set), a, n)[b] == 0) {
                    return set;
                }
            }
        }
        return -1;
    }

    int seen(int s, int n) {
        if (!square(s) || n < 1 || n > 99) {
            return -1;
        }
        int[] lit = bright(now, s, n);
        int found = 0;
        for (int i = 0; i < lit.length; i++) {
            found |= lit[i] >= 1 ? 1 << i : 0;
        }
        return found;
    }

    int under(int a, int b, int n) {
        if (!square(a) || !square(b) || n < 0 || n > 9) {
            return -1;
        }
        int[] far = new int[squares()];
        java.util.Arrays.fill(far, 1000);
        far[a] = 0;
        for (int round = 0; round < 25; round++) {
            for (int i = 0; i < far.length; i++) {
                for (int j = 0; j < far.length; j++) {
                    if (beside(i, j)) {
                        int c = between(now, i, j);
                        int cost = c < 0 || !now.curtains.get(c).hangs() ? 0 : now.curtains.get(c).gap >= n ? 1 : 1000;
                        far[j] = Math.min(far[j], far[i] + cost);
                    }
                }
            }
        }
        return far[b] >= 1000 ? -1 : far[b];
    }

    int lead(int n) {
        if (!there || n < 0 || n > 9) {
            return -1;
        }
        int found = 0;
        for (int c = 0; c < now.curtains.size(); c++) {
            found |= now.curtains.get(c).hangs() && now.curtains.get(c).gap >= n ? 1 << c : 0;
        }
        return found;
    }

    int first(int what) {
        if (!there || what < 0 || what > 1) {
            return -1;
        }
        World w = now.copy();
        for (int year = 1; year <= 200; year++) {
            int fell = goBy(w);
            if (fell != 0) {
                return what == 1 ? year : Integer.numberOfTrailingZeros(fell);
            }
        }
        return -1;
    }

    int cloth(int n) {
        if (!there || n < 1 || n > 60) {
            return -1;
        }
        World w = now.copy();
        for (int i = 0; i < n; i++) {
            goBy(w);
        }
        int lost = 0;
        for (int c = 0; c < w.curtains.size(); c++) {
            lost += now.curtains.get(c).cloth - w.curtains.get(c).cloth;
        }
        return lost;
    }

    // ---- games

    int game(int one, int other, int a, int b, int what) {
        int many = now.curtains.size();
        if (!personIs(one) || !personIs(other) || one == other || what < 0 || what > 1
                || a < 0 || a > many || b < 0 || b > many) {
            return -1000000;
        }
        Set<Integer> drawn = new HashSet<>();
        if (a < many && !now.curtains.get(a).fallen() && right(now, one, a)) {
            drawn.add(a);
        }
        if (b < many && !now.curtains.get(b).fallen() && right(now, other, b)) {
            drawn.add(b);
        }
        World w = with(bits(drawn));
        int who = what == 0 ? one : other;
        Set<Integer> in = stateOf(w, w.places.get(who));
        return in.size() * (lordOf(w, in) == who ? 2 : 1);
    }

    int rests(int one, int other, int i) {
        if (!personIs(one) || !personIs(other) || one == other) {
            return -1;
        }
        int many = now.curtains.size();
        List<Integer> found = new ArrayList<>();
        for (int a = 0; a <= many; a++) {
            for (int b = 0; b <= many; b++) {
                boolean still = true;
                for (int o = 0; o <= many; o++) {
                    still &= game(one, other, o, b, 0) <= game(one, other, a, b, 0);
                    still &= game(one, other, a, o, 1) <= game(one, other, a, b, 1);
                }
                if (still) {
                    found.add(10 * a + b);
                }
            }
        }
        return pick(found, i);
    }

    private static int pick(List<Integer> found, int i) {
        found.sort(null);
        return i == -1 ? found.size() : i < 0 || i >= found.size() ? -1 : found.get(i);
    }

    int treaty(int one, int other) {
        if (!personIs(one) || !personIs(other) || one == other) {
            return -1;
        }
        int many = now.curtains.size();
        for (int c = 0; c < many; c++) {
            if (game(one, other, c, many, 0) > game(one, other, many, many, 0)
                    || game(one, other, many, c, 1) > game(one, other, many, many, 1)) {
                return 0;
            }
        }
        return 1;
    }

    int air(int p) {
        if (!personIs(p)) {
            return -1;
        }
        Set<Integer> in = stateOf(now, now.places.get(p));
        int many = 0;
        for (int place : now.places) {
            many += in.contains(place) ? 1 : 0;
        }
        return in.size() / many;
    }

    // ---- who leant

    int faded(int c, boolean is) {
        if (!curtainIs(c) || faded.size() == 10) {
            return -1;
        }
        faded.add(new int[] {c, is ? 1 : 0});
        return faded.size();
    }

    private boolean leans(int set, int c) {
        Curtain it = now.curtains.get(c);
        for (int p = 0; p < now.places.size(); p++) {
            int at = now.places.get(p);
            if ((set >> p & 1) == 1 && (at == it.one || at == it.other)) {
                return true;
            }
        }
        return false;
    }

    private List<Integer> fitting(int k) {
        List<Integer> found = new ArrayList<>();
        for (int set = 0; set < 1 << now.places.size(); set++) {
            boolean fits = Integer.bitCount(set) == k;
            for (int[] one : faded) {
                fits &= leans(set, one[0]) == (one[1] == 1);
            }
            if (fits) {
                found.add(set);
            }
        }
        return found;
    }

    int leant(int k, int i) {
        return !there || k < 1 || k > 3 ? -1 : pick(fitting(k), i);
    }

    int sure(int k) {
        if (!there || k < 1 || k > 3 || fitting(k).isEmpty()) {
            return -1;
        }
        int in = 63;
        for (int set : fitting(k)) {
            in &= set;
        }
        return in;
    }

    int best(int k) {
        if (!there || k < 1 || k > 3 || fitting(k).isEmpty()) {
            return -1;
        }
        int best = -1, least = 1000;
        for (int c = 0; c < now.curtains.size(); c++) {
            int yes = 0, no = 0;
            for (int set : fitting(k)) {
                if (leans(set, c)) {
                    yes++;
                } else {
                    no++;
                }
            }
            if (Math.abs(yes - no) < least) {
                least = Math.abs(yes - no);
                best = c;
            }
        }
        return best;
    }

    // ---- at a glance

    int cross() {
        if (!there) {
            return -1;
        }
        int found = 0;
        for (int s = 0; s < squares(); s++) {
            int sides = 0;
            for (Curtain c : now.curtains) {
                sides += c.hangs() && (c.one == s || c.other == s) ? 1 : 0;
            }
            found |= sides >= 3 ? 1 << s : 0;
        }
        return found;
    }

    int realm() {
        int best = -1;
        for (int s = squares() - 1; s >= 0; s--) {
            if (best < 0 || stateOf(now, s).size() >= stateOf(now, best).size()) {
                best = s;
            }
        }
        return best;
    }

    int gathered() {
        if (!there) {
            return -1;
        }
        int found = 0;
        for (int c = 0; c < now.curtains.size(); c++) {
            found |= now.curtains.get(c).back && !now.curtains.get(c).fallen() ? 1 << c : 0;
        }
        return found;
    }

    int dark() {
        if (!there) {
            return -1;
        }
        int found = 0;
        for (int s = 0; s < squares(); s++) {
            found |= lit(s) == 0 ? 1 << s : 0;
        }
        return found;
    }

    int borders(int s) {
        if (!square(s)) {
            return -1;
        }
        Set<Integer> in = stateOf(now, s);
        int found = 0;
        for (int c = 0; c < now.curtains.size(); c++) {
            Curtain it = now.curtains.get(c);
            found |= it.hangs() && in.contains(it.one) != in.contains(it.other) ? 1 << c : 0;
        }
        return found;
    }

    int guests() {
        if (!there) {
            return -1;
        }
        int found = 0;
        for (int p = 0; p < now.places.size(); p++) {
            found |= lord(now.places.get(p)) != p ? 1 << p : 0;
        }
        return found;
    }

    int image() {
        if (!there) {
            return -1;
        }
        image = now.copy();
        return now.year;
    }

    int back() {
        if (image == null) {
            return -1;
        }
        now = image.copy();
        past.clear();
        return now.year;
    }

    int count(int what) {
        int hung = 0, fell = 0, cloth = 0;
        for (int c = 0; c < now.curtains.size(); c++) {
            hung |= now.curtains.get(c).hangs() ? 1 << c : 0;
            fell |= now.curtains.get(c).fallen() ? 1 << c : 0;
            cloth += now.curtains.get(c).cloth;
        }
        int[] all = {squares(), now.curtains.size(), now.places.size(), laws.size(), tape.length(), holds, now.year,
            statesIn(now), hung, fell, cloth, heat, faded.size(), now.log.size(), past.size()};
        return what < 0 || what >= all.length ? -1000000 : all[what];
    }
}
