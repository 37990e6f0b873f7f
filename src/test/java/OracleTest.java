import java.util.ArrayList;
import java.util.List;
import java.util.NoSuchElementException;
import java.util.Random;

/** Runs of calls by chance (the same ones each time), each held against the oracle. */
public final class OracleTest {
    private static final int RUNS = 700;
    private static final int CALLS = 500;
    private static int wrong = 0;
    private static int asked = 0;

    private final Random r;
    private final Texts texts;
    private final VelvetStates x = new VelvetStates();
    private final Oracle o = new Oracle();
    private final List<String> calls = new ArrayList<>();

    private OracleTest(long seed) {
        r = new Random(seed);
        texts = new Texts(r);
    }

    public static void main(String[] args) {
        for (int seed = 0; seed < RUNS && wrong < 5; seed++) {
            new OracleTest(seed).run(seed);
        }
        System.out.println("OracleTest: " + asked + " answers, " + wrong + " wrong");
        if (wrong != 0) {
            System.exit(1);
        }
    }

    private void run(int seed) {
        for (int i = 0; i < CALLS; i++) {
            if (!call()) {
                wrong++;
                System.out.println("run " + seed + ": " + String.join("\n  ", calls));
                return;
            }
        }
    }

    private boolean due(String call, long got, long want) {
        asked++;
        calls.add(call + " " + got);
        if (got != want) {
            calls.add("    due is " + want);
        }
        return got == want;
    }

    private int n(int most) {
        if (r.nextInt(25) == 0) {
            return new int[] {-1, -2, Integer.MIN_VALUE, Integer.MAX_VALUE, most, most + 1, 31, 32, 60, 61, 99, 100}[r.nextInt(12)];
        }
        return r.nextInt(Math.max(1, most));
    }

    private int square() {
        return n(x.count(0));
    }

    private int curtain() {
        return n(x.count(1));
    }

    private int person() {
        return n(x.count(2));
    }

    private int someBits() {
        int all = (1 << x.count(0)) - 1;
        return r.nextInt(30) == 0 ? r.nextInt() : all & r.nextInt() & r.nextInt() & r.nextInt();
    }

    private boolean feed(String text) {
        for (int from = 0; from < text.length(); from += 20) {
            int[] w = new int[5];
            for (int i = 0; i < 20 && from + i < text.length(); i++) {
                w[i / 4] |= (text.charAt(from + i) & 255) << 24 - 8 * (i % 4);
            }
            if (!due("feed " + text, x.feed(w[0], w[1], w[2], w[3], w[4]), o.feed(w[0], w[1], w[2], w[3], w[4]))) {
                return false;
            }
        }
        return true;
    }

    private boolean textCalls() {
        boolean room = r.nextBoolean();
        if (r.nextInt(5) > 0 && !due("end(0)", x.end(0) ? 1 : 0, o.end(0) ? 1 : 0)) {
            return false;
        }
        String text = room ? texts.room() : texts.law();
        if (r.nextInt(3) > 0) {
            text = texts.spoilt(text, room ? "scpwhlmadvkgocm;0123456789 " : "y:?()[]!&|=<>+-*/vkglc;0123456789 ");
        }
        int sort = r.nextInt(40) == 0 ? n(3) : room ? 0 : 1;
        if (!feed(text) || !due("fault(" + sort + ") " + o.tape, x.fault(sort), o.fault(sort))) {
            return false;
        }
        // A spoilt ROOM that stands by chance would end the run's own one too often.
        if (sort == 0 && calls.size() > 40 && r.nextInt(6) > 0) {
            return due("end(0)", x.end(0) ? 1 : 0, o.end(0) ? 1 : 0);
        }
        return due("text(" + sort + ")", x.text(sort), o.text(sort));
    }

    private boolean wholeRoom() {
        return due("end(0)", x.end(0) ? 1 : 0, o.end(0) ? 1 : 0) && feed(texts.room())
            && due("text(0)", x.text(0), o.text(0));
    }

    private boolean call() {
        int kind = r.nextInt(100);
        if (kind < 3) {
            return textCalls();
        }
        if (!o.there && kind < 60 && calls.size() > 20) {
            return wholeRoom();
        }
        if (kind < 4) {
            int a = n(60);
            return due("end(" + a + ")", x.end(a) ? 1 : 0, o.end(a) ? 1 : 0);
        }
        if (kind < 40) {
            return actCalls();
        }
        return kind < 75 ? lookCalls() : thinkCalls();
    }

    private boolean actCalls() {
        switch (r.nextInt(15)) {
            case 0: case 1: case 2: {
                int a = person(), b = curtain();
                boolean c = r.nextBoolean();
                return due("pull(" + a + ", " + b + ", " + c + ")", x.pull(a, b, c), o.pull(a, b, c));
            }
            case 3: case 4: {
                int a = person(), b = square();
                return due("go(" + a + ", " + b + ")", x.go(a, b), o.go(a, b));
            }
            case 5: case 6: {
                int a = person(), b = curtain();
                return due("creep(" + a + ", " + b + ")", x.creep(a, b), o.creep(a, b));
            }
            case 7: {
                int a = curtain(), b = n(11);
                return due("mend(" + a + ", " + b + ")", x.mend(a, b), o.mend(a, b));
            }
            case 8: {
                int a = r.nextInt(3) == 0 ? n(62) : n(4);
                return due("years(" + a + ")", x.years(a), o.years(a));
            }
            case 9: {
                int a = r.nextInt(3) == 0 ? n(62) : n(4);
                long b = r.nextInt(3) == 0 ? r.nextInt(10) : r.nextLong();
                return due("centuries(" + a + ", " + b + ")", x.centuries(a, b), o.centuries(a, b));
            }
            case 10: {
                int a = r.nextInt(4) == 0 ? n(101) : r.nextInt(3) * 10;
                return due("heat(" + a + ")", x.heat(a) ? 1 : 0, o.heat(a) ? 1 : 0);
            }
            case 11: {
                int a = n(5) - 1;
                return due("law(" + a + ")", x.law(a) ? 1 : 0, o.law(a) ? 1 : 0);
            }
            case 12: {
                boolean fine = true;
                for (int times = r.nextInt(10) == 0 ? 45 : 1 + r.nextInt(3); times > 0; times--) {
                    fine &= due("undo()", x.undo(), o.undo());
                }
                return fine;
            }
            case 13:
                return r.nextBoolean() ? due("image()", x.image(), o.image()) : due("back()", x.back(), o.back());
            default: {
                int a = curtain();
                boolean b = r.nextBoolean();
                return r.nextInt(3) > 0 || due("faded(" + a + ", " + b + ")", x.faded(a, b), o.faded(a, b));
            }
        }
    }

    private boolean lookCalls() {
        switch (r.nextInt(16)) {
            case 0: {
                int a = n(5);
                return due("rule(" + a + ")", x.rule(a), o.rule(a));
            }
            case 1: case 2: {
                int a = curtain(), b = n(9);
                return due("curtain(" + a + ", " + b + ")", x.curtain(a, b), o.curtain(a, b));
            }
            case 3: {
                int a = person(), b = n(5);
                return due("person(" + a + ", " + b + ")", askedPerson(a, b, true), askedPerson(a, b, false));
            }
            case 4: {
                int a = square();
                return due("state(" + a + ")", x.state(a), o.state(a)) && due("lord(" + a + ")", x.lord(a), o.lord(a));
            }
            case 5: {
                int a = square();
                return due("lit(" + a + ")", x.lit(a), o.lit(a));
            }
            case 6: {
                int a = square(), b = square();
                return due("touch(" + a + ", " + b + ")", x.touch(a, b), o.touch(a, b));
            }
            case 7: {
                int a = n(6);
                return due("status(" + a + ")", x.status(a), o.status(a));
            }
            case 8: {
                int a = r.nextBoolean() ? n(70) : n(5), b = n(4);
                return due("log(" + a + ", " + b + ")", x.log(a, b), o.log(a, b));
            }
            case 9:
                return due("cross()", x.cross(), o.cross()) && due("realm()", x.realm(), o.realm());
            case 10:
                return due("gathered()", x.gathered(), o.gathered());
            case 11:
                return due("dark()", x.dark(), o.dark());
            case 12: {
                int a = square();
                return due("borders(" + a + ")", x.borders(a), o.borders(a));
            }
            case 13:
                return due("guests()", x.guests(), o.guests());
            default: {
                int a = n(16);
                return due("count(" + a + ")", x.count(a), o.count(a));
            }
        }
    }

    private long askedPerson(int person, int what, boolean ofClass) {
        try {
            return ofClass ? x.person(person, what) : o.person(person, what);
        } catch (NoSuchElementException e) {
            return Long.MIN_VALUE;
        }
    }

    private boolean thinkCalls() {
        switch (r.nextInt(14)) {
            case 0: {
                int a = someBits(), b = someBits() & (r.nextInt(8) == 0 ? -1 : ~a);
                return due("join(" + a + ", " + b + ")", x.join(a, b), o.join(a, b));
            }
            case 1: {
                // The oracle is slow here.
                if (r.nextInt(5) > 0) {
                    return true;
                }
                int a = square(), b = square(), c = r.nextBoolean() ? n(100) : n(12);
                return due("hide(" + a + ", " + b + ", " + c + ")", x.hide(a, b, c), o.hide(a, b, c));
            }
            case 2: {
                int a = square(), b = r.nextBoolean() ? n(100) : n(12);
                return due("seen(" + a + ", " + b + ")", x.seen(a, b), o.seen(a, b));
            }
            case 3: {
                int a = square(), b = square(), c = n(10);
                return due("under(" + a + ", " + b + ", " + c + ")", x.under(a, b, c), o.under(a, b, c));
            }
            case 4: {
                int a = n(10);
                return due("lead(" + a + ")", x.lead(a), o.lead(a));
            }
            case 5: {
                int a = n(3);
                return due("first(" + a + ")", x.first(a), o.first(a));
            }
            case 6: {
                int a = n(62);
                return due("cloth(" + a + ")", x.cloth(a), o.cloth(a));
            }
            case 7: case 8: {
                int a = person(), b = person(), c = n(x.count(1) + 1), d = n(x.count(1) + 1), e = n(2);
                return due("game(" + a + ", " + b + ", " + c + ", " + d + ", " + e + ")", x.game(a, b, c, d, e), o.game(a, b, c, d, e));
            }
            case 9: {
                if (r.nextInt(4) > 0) {
                    return true;
                }
                int a = person(), b = person(), c = r.nextBoolean() ? -1 : n(12);
                return due("rests(" + a + ", " + b + ", " + c + ")", x.rests(a, b, c), o.rests(a, b, c));
            }
            case 10: {
                int a = person(), b = person();
                return due("treaty(" + a + ", " + b + ")", x.treaty(a, b), o.treaty(a, b));
            }
            case 11: {
                int a = person();
                return due("air(" + a + ")", x.air(a), o.air(a));
            }
            case 12: {
                int a = n(4), b = n(6) - 1;
                return due("leant(" + a + ", " + b + ")", x.leant(a, b), o.leant(a, b));
            }
            default: {
                int a = n(4);
                return due("sure(" + a + ")", x.sure(a), o.sure(a)) && due("best(" + a + ")", x.best(a), o.best(a));
            }
        }
    }
}
