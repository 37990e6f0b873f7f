/** The terms, part 4: CENTURIES, IMAGES, what is refused, the constants; and how long an object is used. */
final class TermsOfCenturies {
    private final Sentences s;

    private TermsOfCenturies(Sentences s) {
        this.s = s;
    }

    static void ask(Sentences s) {
        TermsOfCenturies terms = new TermsOfCenturies(s);
        terms.heats();
        terms.drawn();
        terms.goes();
        terms.acts();
        terms.goingRound();
        terms.images();
        terms.refusals();
        terms.constants();
        terms.manyCalls();
    }

    private void heats() {
        s.of(20, "CENTURIES by a seed: n (1 .. 60) YEARS, ahead of each: a draw of 100 below HEAT (0 .. 99; 0 at first): all CURTAINS are drawn back");
        s.due("centuries(0, 1)", Check.room("p").centuries(0, 1), -1);
        s.due("centuries(1, 1)", Check.room("p").centuries(1, 1), 1);
        s.due("centuries(60, 1)", Check.room("p").centuries(60, 1), 60);
        s.due("centuries(61, 1)", Check.room("p").centuries(61, 1), -1);
        s.due("count(11)", Check.room("p").count(11), 0);
        for (int draw : new int[] {0, 1, 50, 97, 98, 99}) {
            long seed = Draws.seed(draw * 1000, new int[] {100}, draw);
            for (int heat = Math.max(0, draw - 1); heat <= Math.min(99, draw + 2); heat++) {
                VelvetStates x = Check.room("sw4h1l0m0;ca0;ca1;ca2;p");
                x.heat(heat);
                x.centuries(1, seed);
                s.due("a draw of " + draw + ", HEAT " + heat, x.gathered() == 7, draw < heat);
            }
        }
        VelvetStates back = Check.room("sw3h1l0m0;ca0o1;ca1;p");
        back.heat(1);
        back.centuries(1, Draws.seed(0, new int[] {100}, 0));
        s.due("gathered(), what was drawn back stays so", back.gathered(), 3);
        // The year behind begins with all drawn back: nothing is worn.
        VelvetStates worn = Check.room("sw2h1l99m9;ck9;p");
        worn.heat(1);
        worn.centuries(1, Draws.seed(0, new int[] {100}, 0));
        s.due("curtain(0, 3), ahead of the YEAR", worn.curtain(0, 3), 9);
    }

    private void drawn() {
        s.of(20, "else, if there are any, a draw of how many CURTAINS there are: that one is drawn otherwise (a FALLEN one: nothing)");
        for (int c = 0; c < 3; c++) {
            VelvetStates x = Check.room("sw4h1l0m0;ca0;ca1o1;ca2;p");
            x.centuries(1, Draws.seed(c * 77, new int[] {100, 3}, -1, c));
            s.due("gathered(), drawn: " + c, x.gathered(), 2 ^ 1 << c);
            VelvetStates fallen = Worlds.aged("sw4h1l0m1;ca0k1;ca1o1;ca2;p", 1);
            fallen.centuries(1, Draws.seed(c * 77, new int[] {100, 3}, -1, c));
            s.due("gathered(), drawn: " + c + ", 0 FALLEN", fallen.gathered(), c == 0 ? 2 : 2 ^ 1 << c);
            s.due("curtain(0, 5), drawn: " + c + ", 0 FALLEN", fallen.curtain(0, 5), 0);
        }
        VelvetStates single = Check.room("sw2h1l0m0;c;p");
        single.centuries(1, Draws.seed(0, new int[] {100, 1, 1, 2}, -1, -1, 0, 1));
        s.due("gathered(), one CURTAIN", single.gathered(), 1);
        s.due("person(0, 0), behind the draw of one CURTAIN", single.person(0, 0), 1);
        for (int square = 0; square < 20; square++) {
            VelvetStates none = Check.room("sw5h4;p;p");
            none.centuries(1, Draws.seed(square, new int[] {100, 2, 20}, -1, 1, square));
            s.due("person(1, 0), no CURTAINS, so no draw of one", none.person(1, 0), square);
            s.due("person(0, 0)", none.person(0, 0), 0);
        }
    }

    private void goes() {
        s.of(20, "then a draw of how many PERSONS there are, a draw of how many SQUARES: that one GOES there, if it is of its STATE");
        // c1 is drawn otherwise each time: 0|1 2 3, then 0|1 2|3.
        for (int square = 0; square < 4; square++) {
            VelvetStates x = Check.room("sw4h1l0m0;ca0;ca2o1;pc0;pc1");
            x.centuries(1, Draws.seed(0, new int[] {100, 2, 2, 4}, -1, 1, 1, square));
            s.due("person(1, 0), to " + square, x.person(1, 0), square == 1 || square == 2 ? square : 1);
            s.due("person(0, 0)", x.person(0, 0), 0);
        }
        // By HEAT all is one STATE, and no CURTAIN is drawn by lot.
        for (int square = 0; square < 4; square++) {
            VelvetStates x = Check.room("sw4h1l0m0;ca0;ca2o1;pc0;pc1");
            x.heat(99);
            x.centuries(1, Draws.seed(0, new int[] {100, 2, 4}, 5, 1, square));
            s.due("person(1, 0) by HEAT, to " + square, x.person(1, 0), square);
        }
    }

    private void acts() {
        s.of(20, "No STATUS. Each YEAR with what is ahead of it is one ACT");
        VelvetStates x = Check.room("sw4h1l0m1;ca0k9;ca1k9;ca2k9;p");
        x.mend(0, 1);
        s.due("centuries(5, 3)", x.centuries(5, 3), 5);
        s.due("count(14)", x.count(14), 6);
        s.due("count(13)", x.count(13), 5);
        for (int left = 5; left >= 1; left--) {
            s.due("undo()", x.undo(), left);
            s.due("count(6)", x.count(6), left - 1);
        }
        s.due("gathered(), what was ahead of it, too", x.gathered(), 0);
        s.due("person(0, 0), what was ahead of it, too", x.person(0, 0), 0);
        s.due("curtain(0, 3)", x.curtain(0, 3), 10);
        VelvetStates y = Check.room("sw4h1l0m0;ca0;p");
        y.centuries(41, 3);
        s.due("count(14), of 41 the latest 40", y.count(14), 40);
        for (long status : Looks.statuses(y)) {
            s.due("status", status, 0);
        }
    }

    private void goingRound() {
        s.of(20, "x, at first the seed, becomes x times 6364136223846793005 and 1442695040888963407 (64 bits, going round); "
            + "a draw of m: (x shifted right by 33, without sign) modulo m");
        for (long seed : new long[] {0, 1, -1, Long.MAX_VALUE, Long.MIN_VALUE, 1L << 33, -1L << 33, 6364136223846793005L}) {
            VelvetStates x = Check.room("sw5h4;p;p;p;p;p");
            int[] drawn = Draws.by(seed, 100, 5, 20, 100, 5, 20);
            x.centuries(2, seed);
            int[] places = new int[5];
            places[drawn[1]] = drawn[2];
            places[drawn[4]] = drawn[5];
            for (int p = 0; p < 5; p++) {
                s.due("person(" + p + ", 0) by the seed " + seed, x.person(p, 0), places[p]);
            }
        }
        VelvetStates again = Check.room("sw5h4;p;pc3");
        again.centuries(3, 12345);
        long first = again.person(0, 0) * 20 + again.person(1, 0);
        again.undo();
        again.undo();
        again.undo();
        again.centuries(3, 12345);
        s.due("the same seed, the same draws", again.person(0, 0) * 20 + again.person(1, 0), first);
    }

    private void images() {
        s.of(46, "An IMAGE keeps CURTAINS, where PERSONS are, the YEAR, the LOG; BACK: they are so again (no ACT can be UNDONE then)");
        VelvetStates x = Worlds.aged("sw3h1l0m1;ca0k9g9;ca1k9o1;pc1m2", 8);
        s.due("image()", x.image(), 8);
        x.pull(0, 1, false);
        x.creep(0, 0);
        x.mend(1, 2);
        x.years(60);
        s.due("back()", x.back(), 8);
        s.due("count(14), none can be UNDONE", x.count(14), 0);
        s.due("undo()", x.undo(), -1);
        s.due("curtain(0, 3)", x.curtain(0, 3), 1);
        s.due("curtain(1, 3)", x.curtain(1, 3), 9);
        s.due("gathered()", x.gathered(), 2);
        s.due("person(0, 0)", x.person(0, 0), 1);
        s.due("count(6)", x.count(6), 8);
        s.due("count(13)", x.count(13), 8);
        s.due("log(0, 0)", x.log(0, 0), 2);
        s.due("log(8, 0)", x.log(8, 0), -1);
        s.due("back(), once more", x.back(), 8);
        VelvetStates full = Check.room("sw2h1l99m0;ck99;p");
        Check.law(full, "y:y");
        full.years(60);
        full.years(10);
        full.image();
        full.years(60);
        full.years(60);
        full.back();
        s.due("log(0, 1), the LOG as it was", full.log(0, 1), 197 - 70);
        s.due("log(59, 1), the LOG as it was", full.log(59, 1), 197 - 11);
        s.due("count(13)", full.count(13), 60);
    }

    private void refusals() {
        s.of(14, "What is refused answers as told and changes nothing but STATUS.");
        s.refused("pull(7, 7, true)", Worlds::rich, x -> x.pull(7, 7, true), -1, 0);
        s.refused("go(7, 7)", Worlds::rich, x -> x.go(7, 7), -1, 0);
        s.refused("creep(7, 7)", Worlds::rich, x -> x.creep(7, 7), -1, 0);
        s.refused("mend(7, 7)", Worlds::rich, x -> x.mend(7, 7), -1, 0);
        s.refused("years(77)", Worlds::rich, x -> x.years(77), -1, 1);
        s.refused("centuries(77, 7)", Worlds::rich, x -> x.centuries(77, 7), -1, -1);
        s.refused("text(7)", Worlds::rich, x -> x.text(7), -1, -1);
        s.refused("faded(7, true)", Worlds::rich, x -> x.faded(7, true), -1, -1);
    }

    private void constants() {
        s.of(1, "`NONE = -1`: None; refused.");
        s.due("NONE", VelvetStates.NONE, -1);
        s.of(1, "`HIDDEN = -1000000`: Not told.");
        s.due("HIDDEN", VelvetStates.HIDDEN, -1000000);
    }

    private void manyCalls() {
        s.of(1, "An object is used for at most 512 calls after it has been made");
        VelvetStates x = Check.room("sw2h1;p;c");
        // Two calls made the ROOM: with these there are 512.
        for (int i = 0; i < 127; i++) {
            s.due("pull(0, 0, true)", x.pull(0, 0, true), 1);
            s.due("go(0, 1)", x.go(0, 1 - i % 2), 0);
            s.due("pull(0, 0, false)", x.pull(0, 0, false), 2);
            s.due("count(14)", x.count(14), Math.min(40, 3 * i + 3));
        }
        s.due("person(0, 0)", x.person(0, 0), 1);
        s.due("undo(), the 512th", x.undo(), 39);
        VelvetStates years = Check.room("sw5h4l99m9;ck99;p");
        for (int i = 0; i < 16; i++) {
            s.due("centuries(60, " + i + ")", years.centuries(60, i), 60 * (i + 1));
        }
        for (int i = 0; i < 460; i++) {
            s.due("years(40), beyond 999", years.years(40), -1);
        }
        s.due("status(4)", years.status(4), 460);
    }
}
