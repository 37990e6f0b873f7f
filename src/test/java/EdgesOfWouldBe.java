/** Promises 24 to 38: what is refused and what lies just within. */
final class EdgesOfWouldBe {
    private static final int MOST = Integer.MAX_VALUE;
    private static final int LEAST = Integer.MIN_VALUE;
    private static final int[] WRONG = {-1, 8, 31, 32, 40, MOST, LEAST};
    private static final int[] NOBODY = {-1, 4, 31, 32, MOST, LEAST};
    private final Sentences s;

    private interface AskOne {
        int of(VelvetStates x, int n);
    }

    private EdgesOfWouldBe(Sentences s) {
        this.s = s;
    }

    static void ask(Sentences s) {
        EdgesOfWouldBe edges = new EdgesOfWouldBe(s);
        edges.joining();
        edges.hiding();
        edges.seeing();
        edges.goingUnder();
        edges.leading();
        edges.falling();
        edges.losing();
        edges.playing();
        edges.resting();
        edges.breathing();
        edges.fading();
        edges.leaning();
        edges.surely();
        edges.looking();
    }

    private void refusedFor(String call, AskOne ask, int answer, int... wrong) {
        for (int n : wrong) {
            s.refused(call + " with " + n, Worlds::rich, x -> ask.of(x, n), answer, -1);
        }
    }

    private void refusedWithoutRoom(String call, Looks.Ask ask, int answer) {
        s.refused(call + ", no ROOM", Worlds::unfurnished, ask, answer, -1);
        s.refused(call + ", a new object", Worlds::empty, ask, answer, -1);
    }

    private void joining() {
        s.of(24, "JOIN, as bits. NONE: there is none");
        s.due("join(3, 0)", Worlds.rich().join(3, 0), 1);
        s.due("join(255, 0)", Worlds.rich().join(255, 0), 1);
        s.due("join(1, 254)", Worlds.rich().join(1, 254), 0);
        s.refused("join(2, 4), what parted them has FALLEN", Worlds::rich, x -> x.join(2, 4), -1, -1);
        s.refused("join(1, 1)", Worlds::rich, x -> x.join(1, 1), -1, -1);
        s.of(24, "no ROOM");
        refusedWithoutRoom("join(1, 0)", x -> x.join(1, 0), -1);
        refusedWithoutRoom("join(0, 0)", x -> x.join(0, 0), -1);
        s.of(24, "no such SQUARES");
        refusedFor("join(.., 0)", (x, n) -> x.join(n, 0), -1, 256, 257, -1, LEAST, MOST, 1 << 30);
        refusedFor("join(1, ..)", (x, n) -> x.join(1, n), -1, 256, 258, -1, -2, LEAST, MOST, 1 << 30);
        s.refused("join(1 << 20, 0)", Worlds.of("sw5h4;p"), x -> x.join(1 << 20, 0), -1, -1);
        s.due("join(1 << 19, 0)", Check.room("sw5h4;p").join(1 << 19, 0), 0);
        s.due("join((1 << 20) - 1, 0)", Check.room("sw5h4;p").join((1 << 20) - 1, 0), 0);
        s.of(24, "none of the first");
        s.refused("join(0, 0)", Worlds::rich, x -> x.join(0, 0), -1, -1);
        s.refused("join(0, 255)", Worlds::rich, x -> x.join(0, 255), -1, -1);
    }

    private void hiding() {
        s.of(25, "HIDE, as bits. NONE: there is none");
        s.due("hide(2, 3, 1)", Worlds.rich().hide(2, 3, 1), 0);
        s.due("hide(2, 3, 3)", Worlds.rich().hide(2, 3, 3), 4);
        s.refused("hide(1, 2, 99)", Worlds::rich, x -> x.hide(1, 2, 99), -1, -1);
        s.refused("hide(3, 3, 1)", Worlds::rich, x -> x.hide(3, 3, 1), -1, -1);
        s.of(25, "no such SQUARES");
        refusedFor("hide(.., 0, 1)", (x, n) -> x.hide(n, 0, 1), -1, WRONG);
        refusedFor("hide(0, .., 1)", (x, n) -> x.hide(0, n, 1), -1, WRONG);
        refusedWithoutRoom("hide(0, 0, 1)", x -> x.hide(0, 0, 1), -1);
        s.of(25, "out of bounds");
        refusedFor("hide(2, 3, ..)", (x, n) -> x.hide(2, 3, n), -1, 0, -1, 100, MOST, LEAST);
    }

    private void seeing() {
        s.of(26, "SEEN, as bits. NONE: no such SQUARE");
        s.due("seen(7, 1)", Worlds.rich().seen(7, 1), 128);
        s.due("seen(7, 2)", Worlds.rich().seen(7, 2), 128 + 64 + 8);
        s.due("seen(7, 99)", Worlds.rich().seen(7, 99), 255);
        refusedFor("seen(.., 1)", (x, n) -> x.seen(n, 1), -1, WRONG);
        refusedWithoutRoom("seen(0, 1)", x -> x.seen(0, 1), -1);
        s.of(26, "n 1 .. 99");
        refusedFor("seen(0, ..)", (x, n) -> x.seen(0, n), -1, 0, -1, 100, MOST, LEAST);
    }

    private void goingUnder() {
        s.of(27, "UNDER. NONE: there is no way");
        s.due("under(0, 7, 4)", Worlds.rich().under(0, 7, 4), 1);
        s.due("under(0, 0, 9)", Worlds.rich().under(0, 0, 9), 0);
        s.refused("under(0, 7, 5)", Worlds::rich, x -> x.under(0, 7, 5), -1, -1);
        s.of(27, "no such SQUARES");
        refusedFor("under(.., 0, 0)", (x, n) -> x.under(n, 0, 0), -1, WRONG);
        refusedFor("under(0, .., 0)", (x, n) -> x.under(0, n, 0), -1, WRONG);
        refusedWithoutRoom("under(0, 0, 0)", x -> x.under(0, 0, 0), -1);
        s.of(27, "out of bounds");
        s.due("under(1, 7, 0)", Worlds.rich().under(1, 7, 0), 0);
        s.due("under(1, 7, 9)", Worlds.rich().under(1, 7, 9), 0);
        refusedFor("under(1, 7, ..)", (x, n) -> x.under(1, 7, n), -1, -1, 10, MOST, LEAST);
    }

    private void leading() {
        s.of(28, "LEAD, as bits. NONE: no ROOM");
        refusedWithoutRoom("lead(0)", x -> x.lead(0), -1);
        s.due("lead(0), no CURTAINS", Check.room("p").lead(0), 0);
        s.of(28, "out of bounds (0 .. 9)");
        s.due("lead(0)", Worlds.rich().lead(0), 1 + 8 + 16);
        s.due("lead(4)", Worlds.rich().lead(4), 1 + 16);
        s.due("lead(9)", Worlds.rich().lead(9), 16);
        refusedFor("lead", (x, n) -> x.lead(n), -1, -1, 10, MOST, LEAST);
    }

    private void falling() {
        s.of(29, "FIRST: the CURTAIN (0), YEARS (1). NONE: not within 200");
        s.due("first(0)", Worlds.rich().first(0), 3);
        s.due("first(1)", Worlds.rich().first(1), 11);
        s.refused("first(0), never", Worlds.of("sw2h1l19m0;ck1;p"), x -> x.first(0), -1, -1);
        s.refused("first(1), never", Worlds.of("sw2h1l19m0;ck1;p"), x -> x.first(1), -1, -1);
        s.refused("first(0), no CURTAINS", Worlds.of("p"), x -> x.first(0), -1, -1);
        s.refused("first(1), none HANGS", Worlds.of("sw2h1m9;ck1o1;p"), x -> x.first(1), -1, -1);
        s.of(29, "no ROOM");
        refusedWithoutRoom("first(0)", x -> x.first(0), -1);
        refusedWithoutRoom("first(1)", x -> x.first(1), -1);
        s.of(29, "no such what");
        refusedFor("first", (x, n) -> x.first(n), -1, -1, 2, MOST, LEAST);
    }

    private void losing() {
        s.of(30, "CLOTH. NONE: no ROOM");
        refusedWithoutRoom("cloth(1)", x -> x.cloth(1), -1);
        s.of(30, "out of bounds");
        // c0, c3 and c4 hang in the light: two each.
        s.due("cloth(1)", Worlds.rich().cloth(1), 6);
        s.due("cloth(60)", Worlds.rich().cloth(60), 50 + 22 + 40);
        refusedFor("cloth", (x, n) -> x.cloth(n), -1, 0, 61, -1, MOST, LEAST);
    }

    private void playing() {
        s.of(31, "GAME: what the one has (0), the other (1). HIDDEN: no such ones");
        s.due("game(0, 1, 5, 5, 0), none", Worlds.rich().game(0, 1, 5, 5, 0), 2);
        s.due("game(0, 1, 5, 5, 1), none", Worlds.rich().game(0, 1, 5, 5, 1), 7);
        s.due("game(0, 1, 0, 5, 0)", Worlds.rich().game(0, 1, 0, 5, 0), 8);
        s.due("game(2, 0, 0, 5, 0)", Worlds.rich().game(2, 0, 0, 5, 0), 16);
        refusedFor("game(.., 0, 0, 0, 0)", (x, n) -> x.game(n, 0, 0, 0, 0), -1000000, NOBODY);
        refusedFor("game(0, .., 0, 0, 0)", (x, n) -> x.game(0, n, 0, 0, 0), -1000000, NOBODY);
        refusedWithoutRoom("game(0, 1, 0, 0, 0)", x -> x.game(0, 1, 0, 0, 0), -1000000);
        s.of(31, "alike");
        refusedFor("game of the same", (x, n) -> x.game(n, n, 0, 0, 0), -1000000, 0, 1, 2, 3);
        s.of(31, "out of bounds");
        refusedFor("game(0, 1, .., 0, 0)", (x, n) -> x.game(0, 1, n, 0, 0), -1000000, -1, 6, 32, MOST, LEAST);
        refusedFor("game(0, 1, 0, .., 0)", (x, n) -> x.game(0, 1, 0, n, 0), -1000000, -1, 6, 32, MOST, LEAST);
        refusedFor("game(0, 1, 0, 0, ..)", (x, n) -> x.game(0, 1, 0, 0, n), -1000000, -1, 2, MOST, LEAST);
        s.refused("game(0, 1, 1, 0, 0), no CURTAINS", Worlds.of("p;p"), x -> x.game(0, 1, 1, 0, 0), -1000000, -1);
    }

    private void resting() {
        s.of(32, "RESTS: how many (i NONE), the i-th. NONE: no such one");
        VelvetStates x = Check.room("sw4h1;ca0;pc0m2;pc3m5");
        s.due("rests(0, 1, -1)", x.rests(0, 1, -1), 3);
        s.due("rests(0, 1, 2), the last", x.rests(0, 1, 2), 10);
        s.refused("rests(0, 1, 3)", Worlds.of("sw4h1;ca0;pc0m2;pc3m5"), y -> y.rests(0, 1, 3), -1, -1);
        refusedFor("rests(0, 1, ..)", (y, n) -> y.rests(0, 1, n), -1, -2, 121, MOST, LEAST);
        s.of(32, "no such PERSONS");
        refusedFor("rests(.., 0, -1)", (y, n) -> y.rests(n, 0, -1), -1, NOBODY);
        refusedFor("rests(0, .., -1)", (y, n) -> y.rests(0, n, -1), -1, NOBODY);
        refusedWithoutRoom("rests(0, 1, -1)", y -> y.rests(0, 1, -1), -1);
        s.of(32, "alike");
        refusedFor("rests of the same", (y, n) -> y.rests(n, n, -1), -1, 0, 1, 2, 3);
        s.of(33, "TREATY. NONE: no such PERSONS");
        s.due("treaty(0, 1)", Worlds.rich().treaty(0, 1), 0);
        s.due("treaty(2, 1)", Worlds.rich().treaty(2, 1), 0);
        refusedFor("treaty(.., 0)", (y, n) -> y.treaty(n, 0), -1, NOBODY);
        refusedFor("treaty(0, ..)", (y, n) -> y.treaty(0, n), -1, NOBODY);
        refusedWithoutRoom("treaty(0, 1)", y -> y.treaty(0, 1), -1);
        s.of(33, "alike");
        refusedFor("treaty of the same", (y, n) -> y.treaty(n, n), -1, 0, 1, 2, 3);
    }

    private void breathing() {
        s.of(34, "AIR. NONE: no such PERSON");
        s.due("air(0)", Worlds.rich().air(0), 1);
        s.due("air(3), 7 by 3", Worlds.rich().air(3), 2);
        refusedFor("air", (x, n) -> x.air(n), -1, NOBODY);
        refusedWithoutRoom("air(0)", x -> x.air(0), -1);
    }

    private static VelvetStates tenFaded() {
        VelvetStates x = Worlds.rich();
        for (int i = 0; i < 8; i++) {
            x.faded(0, true);
        }
        return x;
    }

    private void fading() {
        s.of(35, "FADED: how many there are. NONE: no such CURTAIN");
        s.due("faded(4, true), the last", Worlds.rich().faded(4, true), 3);
        s.due("faded(1, true), FALLEN, too", Worlds.rich().faded(1, true), 3);
        s.due("faded(0, true), the same once more", Worlds.rich().faded(0, true), 3);
        refusedFor("faded(.., true)", (x, n) -> x.faded(n, true), -1, -1, 5, 32, MOST, LEAST);
        refusedFor("faded(.., false)", (x, n) -> x.faded(n, false), -1, -1, 5, 32, MOST, LEAST);
        refusedWithoutRoom("faded(0, true)", x -> x.faded(0, true), -1);
        s.refused("faded(0, false), no CURTAINS", Worlds.of("p"), x -> x.faded(0, false), -1, -1);
        s.of(35, "there are ten");
        s.due("count(12)", tenFaded().count(12), 10);
        s.refused("faded(3, true)", EdgesOfWouldBe::tenFaded, x -> x.faded(3, true), -1, -1);
        s.refused("faded(0, false)", EdgesOfWouldBe::tenFaded, x -> x.faded(0, false), -1, -1);
    }

    private void leaning() {
        s.of(36, "LEANT: how many (i NONE), the i-th. NONE: no such one");
        // Somebody leant on c0 (0, 1 or 3 could), nobody on c4.
        VelvetStates x = Worlds.rich();
        s.due("leant(1, -1)", x.leant(1, -1), 3);
        s.due("leant(1, 2), the last", x.leant(1, 2), 8);
        s.due("leant(3, -1)", x.leant(3, -1), 4);
        s.due("leant(3, 3), the last", x.leant(3, 3), 14);
        refusedFor("leant(1, ..)", (y, n) -> y.leant(1, n), -1, 3, -2, MOST, LEAST);
        refusedFor("leant(3, ..)", (y, n) -> y.leant(3, n), -1, 4, -2, MOST, LEAST);
        s.of(36, "no ROOM");
        refusedWithoutRoom("leant(1, -1)", y -> y.leant(1, -1), -1);
        refusedWithoutRoom("leant(1, 0)", y -> y.leant(1, 0), -1);
        s.of(36, "out of bounds");
        refusedFor("leant(.., -1)", (y, n) -> y.leant(n, -1), -1, 0, 4, -1, MOST, LEAST);
        refusedFor("leant(.., 0)", (y, n) -> y.leant(n, 0), -1, 0, 4, -1, MOST, LEAST);
    }

    private static VelvetStates nothingFits() {
        VelvetStates x = Worlds.rich();
        x.faded(0, false);
        return x;
    }

    private void surely() {
        s.of(37, "SURE, as bits. NONE: nothing fits");
        s.due("sure(1)", Worlds.rich().sure(1), 0);
        s.due("sure(2)", Worlds.rich().sure(2), 0);
        s.due("sure(3), all of three", Check.room("p;p;p").sure(3), 7);
        s.refused("sure(1), yes and no", EdgesOfWouldBe::nothingFits, x -> x.sure(1), -1, -1);
        s.refused("sure(3), two PERSONS", Worlds.of("p;p"), x -> x.sure(3), -1, -1);
        s.of(37, "no ROOM");
        refusedWithoutRoom("sure(1)", x -> x.sure(1), -1);
        s.of(37, "out of bounds");
        refusedFor("sure", (x, n) -> x.sure(n), -1, 0, 4, -1, MOST, LEAST);
    }

    private void looking() {
        s.of(38, "LOOK. NONE: nothing fits");
        // By one of 0, 1, 3: c0 3 and 0, c1 2 and 1, c2 0 and 3, c3 1 and 2, c4 0 and 3.
        s.due("best(1)", Worlds.rich().best(1), 1);
        s.due("best(3)", Worlds.rich().best(3), 3);
        s.refused("best(1), yes and no", EdgesOfWouldBe::nothingFits, x -> x.best(1), -1, -1);
        s.refused("best(3), two PERSONS", Worlds.of("p;p;c"), x -> x.best(3), -1, -1);
        s.of(38, "no CURTAIN");
        s.refused("best(1)", Worlds.of("p;p"), x -> x.best(1), -1, -1);
        s.of(38, "no ROOM");
        refusedWithoutRoom("best(1)", x -> x.best(1), -1);
        s.of(38, "out of bounds");
        refusedFor("best", (x, n) -> x.best(n), -1, 0, 4, -1, MOST, LEAST);
    }
}
