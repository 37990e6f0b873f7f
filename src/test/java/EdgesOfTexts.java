import java.util.Arrays;

/** Promises 1 to 13: what is refused and what lies just within. */
final class EdgesOfTexts {
    private static final int BLANKS = 0x20202020;
    private static final int MOST = Integer.MAX_VALUE;
    private static final int LEAST = Integer.MIN_VALUE;
    private final Sentences s;

    private EdgesOfTexts(Sentences s) {
        this.s = s;
    }

    static void ask(Sentences s) {
        EdgesOfTexts edges = new EdgesOfTexts(s);
        edges.noRoom();
        edges.feeding();
        edges.ending();
        edges.faults();
        edges.becoming();
        edges.notBecoming();
        edges.ruling();
        edges.curtains();
        edges.persons();
        edges.laws();
        edges.squares();
    }

    private void noRoom() {
        s.of(1, "No ROOM");
        VelvetStates x = new VelvetStates();
        int[] due = {0, 0, 0, 0, 0, -1, 0, 0, 0, 0, 0, 0, 0, 0, 0};
        for (int what = 0; what < due.length; what++) {
            s.due("count(" + what + ")", x.count(what), due[what]);
        }
        for (int what = 0; what < 5; what++) {
            s.due("status(" + what + ")", x.status(what), 0);
        }
        s.due("fault(0)", x.fault(0), 0);
        s.due("fault(1)", x.fault(1), 0);
        s.due("curtain(0, 0)", x.curtain(0, 0), -1);
        s.due("person(0, 0) throws", Looks.person(x, 0, 0), Looks.THROWN);
        s.due("state(0)", x.state(0), -1);
        s.due("undo()", x.undo(), -1);
        s.due("log(0, 0)", x.log(0, 0), -1);
        s.due("faded(0, true)", x.faded(0, true), -1);
        s.due("back()", x.back(), -1);
        s.due("game(0, 1, 0, 0, 0)", x.game(0, 1, 0, 0, 0), -1000000);
    }

    private static VelvetStates full(int bytes) {
        VelvetStates x = Worlds.on("p;c");
        x.end(0);
        for (int i = 0; i < bytes / 20; i++) {
            x.feed(BLANKS, BLANKS, BLANKS, BLANKS, BLANKS);
        }
        for (int i = 0; i < bytes % 20; i++) {
            x.feed(0, 0, 'p', 0, 0);
        }
        return x;
    }

    private void feeding() {
        s.of(2, "Twenty bytes more come to the TAPE (of each number the highest first; bytes of 0 are left out): how many it has");
        VelvetStates x = new VelvetStates();
        s.due("feed(0, 0, 0, 0, 0)", x.feed(0, 0, 0, 0, 0), 0);
        s.due("feed of p;c o1, with 0 between", x.feed(0x70003B00, 0x00630020, 0, 0x6F, 0x31000000), 6);
        s.due("text(0), in this order", x.text(0), 12);
        s.due("curtain(0, 5), drawn back", x.curtain(0, 5), 1);
        s.due("feed of twenty", x.feed(0x70203B20, BLANKS, BLANKS, BLANKS, 0x20202063), 20);
        s.due("fault(0)", x.fault(0), -1);
        s.due("feed of -1", x.feed(-1, 0, 0, 0, 0), 24);
        s.due("fault(0), the byte 255", x.fault(0), 20);
        s.of(2, "NONE: more than 240");
        s.due("feed of 20, 240 then", full(220).feed(BLANKS, BLANKS, BLANKS, BLANKS, BLANKS), 240);
        s.due("feed of 1, 240 then", full(239).feed(0, 0, 0, 0, 'p'), 240);
        s.due("feed of none, still 240", full(240).feed(0, 0, 0, 0, 0), 240);
        s.refused("feed of 1, 241 then", () -> full(240), y -> y.feed(0, 0, 0, 0, 'p'), -1, -1);
        s.refused("feed of 20, 241 then", () -> full(221), y -> y.feed(BLANKS, BLANKS, BLANKS, BLANKS, BLANKS), -1, -1);
        s.refused("feed of 2, 241 then", () -> full(239), y -> y.feed('p', 0, 0, 0, ';'), -1, -1);
        // Each byte of each number, the least, the one with the sign and the most: all count, and nothing else does.
        int[] words = new int[5];
        for (int place = 0; place < 20; place++) {
            for (int value : new int[] {1, 128, 255}) {
                Arrays.fill(words, 0);
                words[place / 4] = value << 24 - 8 * (place % 4);
                s.due("feed of " + value + " as byte " + place + ", 240 then", feed(full(239), words), 240);
                s.due("feed of " + value + " as byte " + place + ", 241 then", feed(full(240), words), -1);
                s.due("feed of " + value + " as byte " + place, feed(new VelvetStates(), words), 1);
            }
        }
    }

    private static int feed(VelvetStates x, int[] words) {
        return x.feed(words[0], words[1], words[2], words[3], words[4]);
    }

    private void ending() {
        s.of(3, "The TAPE has its first n bytes alone");
        VelvetStates x = new VelvetStates();
        Check.feed(x, "p;c;z");
        s.due("end(5), all", x.end(5), true);
        s.due("fault(0)", x.fault(0), 4);
        s.due("end(3)", x.end(3), true);
        s.due("count(4)", x.count(4), 3);
        s.due("fault(0)", x.fault(0), -1);
        s.due("end(4), those are gone", x.end(4), false);
        s.due("end(0)", x.end(0), true);
        s.due("count(4)", x.count(4), 0);
        s.due("end(0), of none", x.end(0), true);
        VelvetStates cut = new VelvetStates();
        Check.feed(cut, "pm12");
        cut.end(3);
        s.due("text(0) of pm1, cut from pm12", cut.text(0), 12);
        s.due("person(0, 1)", cut.person(0, 1), 1);
        Check.feed(cut, "y:1+23");
        cut.end(5);
        s.due("text(1) of y:1+2, cut from y:1+23", cut.text(1), 0);
        cut.law(0);
        Check.feed(cut, "p;cm");
        cut.end(3);
        s.due("text(0) of p;c, cut from p;cm", cut.text(0), 12);
        s.due("curtain(0, 7)", cut.curtain(0, 7), 3);
        s.of(3, "False: n");
        s.refused("end(-1)", Worlds::rich, y -> y.end(-1) ? 1 : 0, 0, -1);
        s.refused("end(8), of seven", Worlds::rich, y -> y.end(8) ? 1 : 0, 0, -1);
        s.refused("end(1), of none", Worlds::empty, y -> y.end(1) ? 1 : 0, 0, -1);
        s.refused("end(241)", () -> full(240), y -> y.end(241) ? 1 : 0, 0, -1);
        s.refused("end(most)", Worlds::rich, y -> y.end(MOST) ? 1 : 0, 0, -1);
        s.refused("end(least)", Worlds::rich, y -> y.end(LEAST) ? 1 : 0, 0, -1);
    }

    private void faults() {
        s.of(4, "The FAULT of the TAPE as a ROOM (0), a LAW (1). NONE: none");
        s.refused("fault(0), none", Worlds::rich, x -> x.fault(0), -1, -1);
        s.refused("fault(1), a ROOM is no LAW", Worlds::rich, x -> x.fault(1), 0, -1);
        s.refused("fault(0), a LAW is no ROOM", Worlds.of("p"), x -> x.fault(0), 0, -1);
        s.refused("fault(1), none", Worlds.of("p"), x -> x.fault(1), -1, -1);
        s.refused("fault(0), 240 bytes", () -> full(240), x -> x.fault(0), 240, -1);
        s.of(4, "-2: no such sort");
        s.refused("fault(2)", Worlds::rich, x -> x.fault(2), -2, -1);
        s.refused("fault(-1)", Worlds::rich, x -> x.fault(-1), -2, -1);
        s.refused("fault(most)", Worlds::empty, x -> x.fault(MOST), -2, -1);
        s.refused("fault(least)", Worlds::empty, x -> x.fault(LEAST), -2, -1);
    }

    private void becoming() {
        s.of(5, "The TAPE (empty then) is the ROOM (YEAR 0; all that was of another one, FADED, too, is gone but LAWS, which holds, HEAT, STATUS): "
            + "how many SQUARES; a LAW: its number");
        VelvetStates x = Worlds.rich();
        long[] before = Looks.statuses(x);
        s.due("text(0)", x.text(0), 12);
        int[] due = {12, 1, 1, 2, 0, 1, 0, 1, 0, 0, 30, 7, 0, 0, 0};
        for (int what = 0; what < due.length; what++) {
            s.due("count(" + what + ")", x.count(what), due[what]);
        }
        for (int what = 0; what < 5; what++) {
            s.due("status(" + what + ")", x.status(what), before[what]);
        }
        s.due("rule(2)", x.rule(2), 40);
        s.due("rule(3)", x.rule(3), 1);
        s.due("curtain(0, 0), of the new ROOM", x.curtain(0, 0), 1);
        s.due("curtain(1, 0), of the old ROOM", x.curtain(1, 0), -1);
        s.due("curtain(0, 7), by the LAW that held", x.curtain(0, 7), 9);
        s.due("person(0, 0)", x.person(0, 0), 0);
        s.due("person(1, 0) throws", Looks.person(x, 1, 0), Looks.THROWN);
        s.due("log(0, 0)", x.log(0, 0), -1);
        s.due("undo()", x.undo(), -1);
        s.due("back()", x.back(), -1);
        s.due("leant(1, -1), nothing is FADED", x.leant(1, -1), 1);
        s.due("faded(0, true)", x.faded(0, true), 1);
        s.due("text(0), an empty TAPE", x.text(0), -1);
        Check.feed(x, "y:3");
        s.due("text(1)", x.text(1), 2);
        s.due("count(4), empty then", x.count(4), 0);
        s.due("count(5), the same LAW holds", x.count(5), 1);
        Check.feed(x, "sw5h4;p");
        s.due("text(0), the most", x.text(0), 20);
        Check.feed(x, "sw1h1;p");
        s.due("text(0), the least", x.text(0), 1);
        s.due("count(7)", x.count(7), 1);
        s.due("state(1), it was one of the ROOM ahead", x.state(1), -1);
        for (String small : new String[] {"p", "sw1h1;p", "sw2h2;c;cd1;ca1d1;ca2;p", "sw3h2;ca1;pc5m1;p", "sw2h4;ca1d1k2;pc7"}) {
            String changed = Looks.apart(() -> Check.room(small), () -> behindMore(small));
            s.due("text(0) of " + small + ", behind more, leaves of that: " + changed, changed.isEmpty(), true);
        }
    }

    /** The same ROOM, but others with all that there can be were there ahead of it, or were looked at. */
    private static VelvetStates behindMore(String small) {
        VelvetStates x = new VelvetStates();
        for (int i = 0; i < 2; i++) {
            Check.feed(x, "sw5h4l99m9;co1;ca1o1;ca2k9;ca3k9;cd1k9;ca1d1;ca2d1;ca3d1;ca4d1;ca5;pm9;pm9;pc1m9;pc2m9;pc3m9;pc4m9");
            x.text(0);
            x.faded(0, false);
            x.faded(1, true);
            x.go(0, 1);
            x.years(30);
            x.image();
            x.years(30);
        }
        Check.feed(x, "sw5h4l98m8;co1;ca1o1;ca2o1;ca3o1;cd1o1;pm8;pm8;pm8;pm8;pm8;pm8");
        x.fault(0);
        x.end(0);
        Check.feed(x, small);
        x.text(0);
        return x;
    }

    private static VelvetStates wrong(String text) {
        VelvetStates x = Worlds.rich();
        x.end(0);
        Check.feed(x, text);
        return x;
    }

    private static VelvetStates fourLaws() {
        VelvetStates x = Worlds.rich();
        x.end(0);
        Check.feed(x, "y:3");
        x.text(1);
        Check.feed(x, "y:4");
        x.text(1);
        Check.feed(x, "y:5");
        return x;
    }

    private void notBecoming() {
        s.of(5, "NONE: a FAULT");
        s.refused("text(0) of nothing", () -> wrong(""), x -> x.text(0), -1, -1);
        s.refused("text(1) of nothing", () -> wrong(""), x -> x.text(1), -1, -1);
        s.refused("text(0) of sw5h4;", () -> wrong("sw5h4;"), x -> x.text(0), -1, -1);
        s.refused("text(0) of sw5h4l9m9;ck9v9;p;p;pz", () -> wrong("sw5h4l9m9;ck9v9;p;p;pz"), x -> x.text(0), -1, -1);
        s.refused("text(0) of sw5h4;ca19;p", () -> wrong("sw5h4;ca19;p"), x -> x.text(0), -1, -1);
        s.refused("text(0) of a LAW", () -> wrong("y:1"), x -> x.text(0), -1, -1);
        s.refused("text(1) of a ROOM", Worlds::rich, x -> x.text(1), -1, -1);
        s.refused("text(1) of y:1;", () -> wrong("y:1;"), x -> x.text(1), -1, -1);
        s.refused("text(1) of y:v=1?2;y:(", () -> wrong("y:v=1?2;y:("), x -> x.text(1), -1, -1);
        s.of(5, "no such sort");
        s.refused("text(2)", Worlds::rich, x -> x.text(2), -1, -1);
        s.refused("text(-1)", Worlds::rich, x -> x.text(-1), -1, -1);
        s.refused("text(most)", Worlds::unfurnished, x -> x.text(MOST), -1, -1);
        s.refused("text(least)", Worlds.of("p"), x -> x.text(LEAST), -1, -1);
        s.of(5, "there are four LAWS");
        s.due("count(3)", fourLaws().count(3), 4);
        s.refused("text(1), a fifth", EdgesOfTexts::fourLaws, x -> x.text(1), -1, -1);
    }

    private void ruling() {
        s.of(6, "The RULES: 0 WIDTH, 1 HEIGHT, 2 LIGHT, 3 MOTHS. NONE: no ROOM, no such what");
        VelvetStates x = Worlds.rich();
        int[] due = {-1, 4, 2, 50, 1, -1};
        for (int what = -1; what <= 4; what++) {
            s.due("rule(" + what + ")", x.rule(what), due[what + 1]);
        }
        for (int what = 0; what < 4; what++) {
            s.due("rule(" + what + "), no ROOM", new VelvetStates().rule(what), -1);
        }
        s.refused("rule(4)", Worlds::rich, y -> y.rule(4), -1, -1);
        s.refused("rule(-1)", Worlds::rich, y -> y.rule(-1), -1, -1);
        s.refused("rule(least)", Worlds::rich, y -> y.rule(LEAST), -1, -1);
        s.refused("rule(0), no ROOM", Worlds::unfurnished, y -> y.rule(0), -1, -1);
    }

    private void curtains() {
        s.of(7, "Of a CURTAIN: 0, 1 its SQUARES, 2 VEIL, 3 CLOTH now, 4 GAP, 5 whether drawn back (1, 0), 6 whether it HANGS (1, 0), "
            + "7 what it TAKES (would, if it hung). NONE: no such ones");
        VelvetStates x = Worlds.rich();
        int[][] due = {{0, 1, 3, 50, 4, 0, 1, 9}, {1, 2, 5, 0, 9, 0, 0, 2}, {2, 3, 5, 95, 2, 1, 0, 2}, {0, 4, 5, 22, 0, 0, 1, 2}};
        for (int c = 0; c < due.length; c++) {
            for (int what = 0; what < 8; what++) {
                s.due("curtain(" + c + ", " + what + ")", x.curtain(c, what), due[c][what]);
            }
        }
        s.due("curtain(1, 7), FALLEN: would, if it hung", Worlds.aged("sw2h1;cv4k1;p", 1).curtain(0, 7), 4);
        s.due("curtain(4, 0), the last", x.curtain(4, 0), 5);
        s.refused("curtain(5, 0)", Worlds::rich, y -> y.curtain(5, 0), -1, -1);
        s.refused("curtain(-1, 0)", Worlds::rich, y -> y.curtain(-1, 0), -1, -1);
        s.refused("curtain(0, 8)", Worlds::rich, y -> y.curtain(0, 8), -1, -1);
        s.refused("curtain(0, -1)", Worlds::rich, y -> y.curtain(0, -1), -1, -1);
        s.refused("curtain(least, least)", Worlds::rich, y -> y.curtain(LEAST, LEAST), -1, -1);
        s.refused("curtain(0, 0), no CURTAINS", Worlds.of("p"), y -> y.curtain(0, 0), -1, -1);
        s.refused("curtain(0, 0), no ROOM", Worlds::unfurnished, y -> y.curtain(0, 0), -1, -1);
        s.refused("curtain(32, 0)", Worlds::rich, y -> y.curtain(32, 0), -1, -1);
    }

    private void persons() {
        s.of(8, "Of a PERSON: 0 SQUARE, 1 MIGHT, 2 NAME of the STATE, 3 whether its LORD (1, 0). NoSuchElementException: no such ones");
        VelvetStates x = Worlds.rich();
        int[][] due = {{0, 4, 0, 1}, {1, 2, 1, 0}, {7, 9, 1, 1}, {1, 2, 1, 0}};
        for (int p = 0; p < due.length; p++) {
            for (int what = 0; what < 4; what++) {
                s.due("person(" + p + ", " + what + ")", Looks.person(x, p, what), due[p][what]);
            }
        }
        s.refused("person(4, 0)", Worlds::rich, y -> Looks.person(y, 4, 0), Looks.THROWN, -1);
        s.refused("person(-1, 0)", Worlds::rich, y -> Looks.person(y, -1, 0), Looks.THROWN, -1);
        s.refused("person(0, 4)", Worlds::rich, y -> Looks.person(y, 0, 4), Looks.THROWN, -1);
        s.refused("person(0, -1)", Worlds::rich, y -> Looks.person(y, 0, -1), Looks.THROWN, -1);
        s.refused("person(most, least)", Worlds::rich, y -> Looks.person(y, MOST, LEAST), Looks.THROWN, -1);
        s.refused("person(0, 0), no ROOM", Worlds::unfurnished, y -> Looks.person(y, 0, 0), Looks.THROWN, -1);
    }

    private void laws() {
        s.of(9, "The LAW that holds (NONE: none). False: no such one");
        VelvetStates x = Worlds.rich();
        s.due("law(0)", x.law(0), true);
        s.due("count(5)", x.count(5), 0);
        s.due("law(0), it is so", x.law(0), true);
        s.due("law(1)", x.law(1), true);
        s.due("curtain(0, 7)", x.curtain(0, 7), 9);
        s.due("law(-1)", x.law(-1), true);
        s.due("count(5), none", x.count(5), -1);
        s.due("curtain(0, 7), none", x.curtain(0, 7), 3 + 5);
        s.due("law(-1), no LAWS", new VelvetStates().law(-1), true);
        VelvetStates four = fourLaws();
        s.due("law(3), of four", four.law(3), true);
        s.due("curtain(0, 7), by the fourth", four.curtain(0, 7), 4);
        s.due("law(2), of four", four.law(2), true);
        s.due("curtain(0, 7), by the third", four.curtain(0, 7), 3);
        s.refused("law(4), of four", EdgesOfTexts::fourLaws, y -> y.law(4) ? 1 : 0, 0, -1);
        s.refused("law(2), of two", Worlds::rich, y -> y.law(2) ? 1 : 0, 0, -1);
        s.refused("law(-2)", Worlds::rich, y -> y.law(-2) ? 1 : 0, 0, -1);
        s.refused("law(most)", Worlds::rich, y -> y.law(MOST) ? 1 : 0, 0, -1);
        s.refused("law(least)", Worlds::rich, y -> y.law(LEAST) ? 1 : 0, 0, -1);
        s.refused("law(0), of none", Worlds.of("p"), y -> y.law(0) ? 1 : 0, 0, -1);
    }

    private void squares() {
        s.of(10, "NAME of the STATE of a SQUARE. NONE: no such one");
        s.due("state(7), the last", Worlds.rich().state(7), 1);
        wrongSquares("state", (x, square) -> x.state(square));
        s.of(11, "LORD of the STATE of a SQUARE. NONE: nobody, no such one");
        s.due("lord(7), the last", Worlds.rich().lord(7), 2);
        s.refused("lord(1), nobody", Worlds.of("sw2h1;c;p"), x -> x.lord(1), -1, -1);
        wrongSquares("lord", (x, square) -> x.lord(square));
        s.of(12, "LIT. NONE: no such SQUARE");
        s.due("lit(7), the last", Worlds.rich().lit(7), 50 - 3 - 1 - 3 - 1);
        wrongSquares("lit", (x, square) -> x.lit(square));
        s.of(13, "Whether STATES of two SQUARES touch (1, 0). NONE: no such ones");
        s.due("touch(0, 7)", Worlds.rich().touch(0, 7), 1);
        s.due("touch(7, 6)", Worlds.rich().touch(7, 6), 0);
        wrongSquares("touch(0, ..)", (x, square) -> x.touch(0, square));
        wrongSquares("touch(.., 0)", (x, square) -> x.touch(square, 0));
        wrongSquares("touch of the same", (x, square) -> x.touch(square, square));
    }

    private interface AskSquare {
        int of(VelvetStates x, int square);
    }

    private void wrongSquares(String call, AskSquare ask) {
        for (int square : new int[] {-1, 8, 31, 32, 40, MOST, LEAST}) {
            s.refused(call + " of " + square, Worlds::rich, x -> ask.of(x, square), -1, -1);
        }
        s.refused(call + " of 0, no ROOM", Worlds::unfurnished, x -> ask.of(x, 0), -1, -1);
        s.refused(call + " of 20", Worlds.of("sw5h4;p"), x -> ask.of(x, 20), -1, -1);
        s.refused(call + " of 1, of one", Worlds.of("sw1h1;p"), x -> ask.of(x, 1), -1, -1);
    }
}
