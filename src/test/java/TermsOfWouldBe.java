/** The terms, part 3: what would be, games, who leant, and what is seen at a glance. */
final class TermsOfWouldBe {
    // 0|1   c0 parts 0 and 1, c1 parts 0 and 2; c2 (1 and 3) and c3 (2 and 3) are drawn back.
    // -
    // 2 3
    private static final String FOUR = "sw2h2m1;c;cd1;ca1d1o1;ca2o1;";
    private final Sentences s;

    private TermsOfWouldBe(Sentences s) {
        this.s = s;
    }

    static void ask(Sentences s) {
        TermsOfWouldBe terms = new TermsOfWouldBe(s);
        terms.apart();
        terms.behindTheLastYear();
        terms.joining();
        terms.hiding();
        terms.seeing();
        terms.goingUnder();
        terms.falling();
        terms.losing();
        terms.playing();
        terms.resting();
        terms.breathing();
        terms.leaning();
        terms.looking();
        terms.glancing();
    }

    private void unchanged(String call, Looks.Ask ask) {
        String changed = Looks.changedWithStatus(Worlds::rich, ask);
        s.due(call + " changes: " + changed, changed.isEmpty(), true);
    }

    private void apart() {
        s.of(24, "(Apart, from as it is now; YEARS go on behind 999.)");
        unchanged("join", x -> x.join(9, 2));
        unchanged("hide", x -> x.hide(2, 3, 3));
        unchanged("seen", x -> x.seen(0, 50));
        unchanged("under", x -> x.under(0, 7, 1));
        unchanged("lead", x -> x.lead(2));
        unchanged("first", x -> x.first(0));
        unchanged("first", x -> x.first(1));
        unchanged("cloth", x -> x.cloth(60));
        unchanged("game", x -> x.game(0, 1, 0, 4, 1));
        unchanged("rests", x -> x.rests(0, 1, 0));
        unchanged("treaty", x -> x.treaty(0, 1));
        unchanged("air", x -> x.air(1));
        unchanged("leant", x -> x.leant(2, 0));
        unchanged("sure", x -> x.sure(2));
        unchanged("best", x -> x.best(2));
        unchanged("cross", x -> x.cross());
        unchanged("realm", x -> x.realm());
        unchanged("gathered", x -> x.gathered());
        unchanged("dark", x -> x.dark());
        unchanged("borders", x -> x.borders(3));
        unchanged("guests", x -> x.guests());
    }

    private void behindTheLastYear() {
        s.of(29, "YEARS go on behind 999");
        VelvetStates x = Worlds.aged("sw2h1l0m1;ck50o1;p", 999);
        x.pull(0, 0, false);
        s.due("count(6)", x.count(6), 999);
        s.due("first(0)", x.first(0), 0);
        s.due("first(1)", x.first(1), 50);
        s.due("cloth(49)", x.cloth(49), 49);
        s.due("cloth(60)", x.cloth(60), 50);
        // From the YEAR 1000 on c0 takes all light: c1 fades once, c0 each YEAR.
        VelvetStates y = Worlds.aged("sw3h1l40m0;ca0k99o1;ca1k9o1;p", 999);
        y.end(0);
        Check.law(y, "y:y>999?99;y:1");
        y.pull(0, 1, false);
        y.pull(0, 0, false);
        s.due("cloth(1)", y.cloth(1), 2);
        s.due("cloth(10), by the YEAR behind 999", y.cloth(10), 11);
        s.due("first(1), by the YEAR behind 999", y.first(1), 99);
        s.due("count(6), as it was", y.count(6), 999);
    }

    private void joining() {
        s.of(24, "JOIN for SQUARES (bits, at least one) and others (bits)");
        VelvetStates x = Check.room(FOUR + "p");
        s.due("join(0, 0), none", x.join(0, 0), -1);
        s.due("join(0, 15), none", x.join(0, 15), -1);
        s.due("join(1, 0), one", x.join(1, 0), 0);
        s.due("join(15, 0), all", x.join(15, 0), 1);
        s.due("join(1, 14), all others", x.join(1, 14), 0);
        s.of(24, "sets of CURTAINS that have not FALLEN (bits) that would be drawn otherwise than now (back, or hung)");
        s.due("join(3, 0), back", Check.room("sw2h1;c;p").join(3, 0), 1);
        s.due("join(1, 2), hung", Check.room("sw2h1;co1;p").join(1, 2), 1);
        s.due("join(1, 2), FALLEN", Worlds.aged("sw2h1l0;ck1;p", 1).join(1, 2), -1);
        s.due("join(3, 0), FALLEN", Worlds.aged("sw2h1l0;ck1;p", 1).join(3, 0), 0);
        s.due("join(1, 2), no CURTAINS", Check.room("sw2h1;p").join(1, 2), -1);
        s.of(24, "so that all of the first are in one STATE then and none of the others is in it: the fewest (bits; of several the least)");
        s.due("join(9, 0), of c0 and c1 the least", x.join(9, 0), 1);
        s.due("join(9, 2), two", x.join(9, 2), 6);
        s.due("join(8, 6), two to be hung", x.join(8, 6), 12);
        s.due("join(3, 2), one of both", x.join(3, 2), -1);
        s.due("join(15, 15), all of both", x.join(15, 15), -1);
        // c2 alone (4) is fewer than c0 with c1 (3).
        s.due("join(5, 0), the fewest ahead of the least", Check.room("sw3h2;ca0;ca1;ca0d1;ca1d1;p").join(5, 0), 4);
        VelvetStates ten = Check.room("sw5h3;ca0;ca1;ca2;ca3;ca5;ca6;ca7;ca8;ca10;ca4d1;p");
        s.due("join(31, 0), of ten", ten.join(31, 0), 9);
        s.due("join(31, 992), of ten", ten.join(31, 992), -1);
        VelvetStates row = Check.room("sw5h3;ca0;ca1;ca2;ca3;ca0d1o1;ca1d1o1;ca2d1o1;ca3d1o1;ca4d1o1;ca5;p");
        s.due("join(31, 992), nine of ten", row.join(31, 992), 511);
    }

    private void hiding() {
        s.of(25, "HIDE of a SQUARE from another one with n (1 .. 99)");
        VelvetStates x = Check.room("sw2h1;co1;p");
        s.due("hide(0, 1, 0)", x.hide(0, 1, 0), -1);
        s.due("hide(0, 1, 1)", x.hide(0, 1, 1), 0);
        s.due("hide(0, 1, 2)", x.hide(0, 1, 2), 1);
        s.due("hide(0, 1, 99)", x.hide(0, 1, 99), -1);
        Check.law(x, "y:98");
        s.due("hide(0, 1, 99) by 98", x.hide(0, 1, 99), 1);
        s.due("hide(0, 1, 100)", x.hide(0, 1, 100), -1);
        Check.law(x, "y:97");
        s.due("hide(0, 1, 99) by 97", x.hide(0, 1, 99), -1);
        s.of(25, "sets of CURTAINS that are drawn back (not FALLEN) to be hung, so that the other one is BRIGHT by 0 from it with n: "
            + "the fewest (of several the least)");
        VelvetStates row = Check.room("sw4h1;ca0o1;ca1o1;ca2o1;p");
        Check.law(row, "y:c=2?50;y:5");
        s.due("hide(0, 3, 3), it is so", row.hide(0, 3, 3), 0);
        s.due("hide(0, 3, 8), by 0, of several the least", row.hide(0, 3, 8), 1);
        s.due("hide(0, 3, 9), the fewest ahead of the least", row.hide(0, 3, 9), 4);
        s.due("hide(3, 0, 12)", row.hide(3, 0, 12), 4);
        s.due("hide(0, 2, 12), two", row.hide(0, 2, 12), 3);
        s.due("hide(0, 3, 63), all", row.hide(0, 3, 63), 7);
        s.due("hide(0, 3, 64), there is none", row.hide(0, 3, 64), -1);
        s.due("hide(0, 0, 1), itself", row.hide(0, 0, 1), -1);
        s.due("hide(0, 1, 2), FALLEN", Worlds.aged("sw2h1l0;ck1;p", 1).hide(0, 1, 2), -1);
        VelvetStates hot = Worlds.aged("sw2h1l0;ck1;p", 1);
        hot.heat(99);
        hot.centuries(1, Draws.seed(0, new int[] {100}, 0));
        s.due("hide(0, 1, 2), FALLEN and drawn back", hot.hide(0, 1, 2), -1);
        s.due("hide(0, 1, 9), one that hangs stays", Check.room("sw2h1;c;p").hide(0, 1, 9), 0);
    }

    private void seeing() {
        s.of(26, "SEEN from a SQUARE with n: SQUARES (bits) that are BRIGHT from it by 1 or more");
        VelvetStates x = Check.room("sw3h1;p");
        s.due("seen(0, 1)", x.seen(0, 1), 1);
        s.due("seen(0, 2)", x.seen(0, 2), 3);
        s.due("seen(0, 3)", x.seen(0, 3), 7);
        s.due("seen(1, 1)", x.seen(1, 1), 2);
        s.due("seen(1, 2)", x.seen(1, 2), 7);
        s.due("seen(0, 9) over 8", Check.room("sw2h1;c;p").seen(0, 9), 1);
        s.due("seen(0, 10) over 8", Check.room("sw2h1;c;p").seen(0, 10), 3);
    }

    private void goingUnder() {
        s.of(27, "for a size n (0 .. 9): the fewest CURTAINS that HANG passed under, each with a GAP of n or more");
        // On top two CURTAINS with a GAP of 9, below one with a GAP of 5.
        VelvetStates x = Check.room("sw3h2;ca0g9;ca1g9;ca3g5;ca1d1g0;p");
        s.due("under(0, 2, -1)", x.under(0, 2, -1), -1);
        s.due("under(0, 2, 0)", x.under(0, 2, 0), 1);
        s.due("under(0, 2, 5), as wide", x.under(0, 2, 5), 1);
        s.due("under(0, 2, 6), too narrow below", x.under(0, 2, 6), 2);
        s.due("under(2, 0, 6)", x.under(2, 0, 6), 2);
        s.due("under(0, 2, 9)", x.under(0, 2, 9), 2);
        s.due("under(0, 2, 10)", x.under(0, 2, 10), -1);
        s.due("under(0, 3, 9), none to pass", x.under(0, 3, 9), 0);
        s.due("under(1, 1, 9), itself", x.under(1, 1, 9), 0);
        s.due("under(0, 1, 9)", Check.room("sw2h1;cg8;p").under(0, 1, 9), -1);
        s.due("under(0, 1, 9), drawn back", Check.room("sw2h1;cg8o1;p").under(0, 1, 9), 0);
        s.due("under(0, 1, 9), FALLEN", Worlds.aged("sw2h1l0;cg0k1;p", 1).under(0, 1, 9), 0);
        s.due("under(0, 3, 1), three", Check.room("sw1h4;cd1;ca1d1;ca2d1;p").under(0, 3, 1), 3);
        s.of(28, "LEAD for a size: CURTAINS (bits) that HANG with so much GAP");
        VelvetStates y = Check.room("sw5h1l0;ca0g0;ca1g3;ca2g9;ca3g9o1;p");
        s.due("lead(0)", y.lead(0), 7);
        s.due("lead(3), as much", y.lead(3), 6);
        s.due("lead(4)", y.lead(4), 4);
        s.due("lead(9)", y.lead(9), 4);
        s.due("lead(0), FALLEN", Worlds.aged("sw3h1l0;ca0k1g9;ca1k2g9;p", 1).lead(0), 2);
    }

    private void falling() {
        s.of(29, "FIRST: the CURTAIN that FALLS first, as all is now (of several the lowest); behind how many YEARS (1 .. 200)");
        VelvetStates x = Check.room("sw4h1l0m1;ca0k6;ca1k5;ca2k5;p");
        s.due("first(0), of several the lowest", x.first(0), 1);
        s.due("first(1)", x.first(1), 5);
        s.due("first(1), one YEAR", Check.room("sw2h1l0m1;ck1;p").first(1), 1);
        s.due("first(1), one YEAR, more MOTHS", Check.room("sw2h1l0m9;ck9;p").first(1), 1);
        s.due("first(1), the longest", Check.room("sw2h1l20m0;ck99;p").first(1), 99);
        s.due("first(0), never", Check.room("sw2h1l19m0;ck1;p").first(0), -1);
        s.due("first(1), never", Check.room("sw2h1l19m0;ck1;p").first(1), -1);
        s.due("first(0), as all is now: drawn back", Check.room("sw2h1l0m9;ck1o1;p").first(0), -1);
        s.due("first(0), FALLEN ones fall no more", Worlds.aged("sw3h1l0;ca0k1;ca1k9;p", 1).first(0), 1);
        s.due("first(1), behind those that FELL", Worlds.aged("sw3h1l0;ca0k1;ca1k9;p", 1).first(1), 8);
        s.due("first(0), all have FALLEN", Worlds.aged("sw2h1l0;ck1;p", 1).first(0), -1);
    }

    private void losing() {
        s.of(30, "CLOTH for n (1 .. 60) YEARS: how much all CURTAINS that have not FALLEN would lose together");
        VelvetStates x = Check.room("sw4h1l0m2;ca0k99;ca1k3;ca2k50o1;p");
        s.due("cloth(0)", x.cloth(0), -1);
        s.due("cloth(1)", x.cloth(1), 4);
        s.due("cloth(2), one has no more", x.cloth(2), 7);
        s.due("cloth(3)", x.cloth(3), 9);
        s.due("cloth(49)", x.cloth(49), 101);
        s.due("cloth(50), none has more", x.cloth(50), 102);
        s.due("cloth(60)", x.cloth(60), 102);
        s.due("cloth(61)", x.cloth(61), -1);
        s.due("cloth(60), no CURTAINS", Check.room("p").cloth(60), 0);
        s.due("cloth(9), FALLEN", Worlds.aged("sw2h1l0;ck1;p", 1).cloth(9), 0);
    }

    private void game(String room, int years, int x, int y, int one, int other) {
        VelvetStates played = Worlds.aged(room, years);
        s.due("game(0, 1, " + x + ", " + y + ", 0) of " + room, played.game(0, 1, x, y, 0), one);
        s.due("game(0, 1, " + x + ", " + y + ", 1) of " + room, played.game(0, 1, x, y, 1), other);
    }

    private void playing() {
        s.of(31, "x, y a CURTAIN that each draws otherwise (as many as there are: none; one that has FALLEN, "
            + "or one without the right to it now: nothing; the same one by both: once)");
        // c1 falls in the first YEAR: 0|1 2|3.
        String row = "sw4h1l0m1;ca0k9;ca1k1;ca2k9;pc0m2;pc3m5";
        game(row, 1, 3, 3, 2, 2);
        game(row, 1, 0, 3, 6, 2);
        game(row, 1, 3, 2, 2, 6);
        game(row, 1, 0, 2, 4, 8);
        game(row, 1, 1, 1, 2, 2);
        game(row, 1, 2, 3, 2, 2);
        game(row, 1, 3, 0, 2, 2);
        game("sw2h1;c;pm2;pc1m5", 0, 0, 0, 2, 4);
        game("sw2h1;co1;pm2;pc1m5", 0, 0, 0, 2, 2);
        game("sw2h1;co1;pm2;pc1m5", 0, 1, 1, 2, 4);
        // By x the other one would come to have the right to c1, but it has none now.
        game("sw3h1;ca0;ca1;pc1m2;pc0m5", 0, 0, 1, 2, 4);
        // The one has no right to c1, the other has: drawn once.
        game("sw3h1;ca0;ca1;pc0m2;pc2m5", 0, 1, 1, 2, 4);
        game("sw1h1;pm2;pm5", 0, 0, 0, 1, 2);
        // 0 1|2 3|4, each can draw the CURTAIN that bounds it.
        game("sw5h1;ca3;ca1;pc0m2;pc4m5", 0, 1, 2, 8, 2);
        game("sw5h1;ca3;ca1;pc0m2;pc4m5", 0, 2, 0, 4, 6);
        game("sw5h1;ca3;ca1;pc0m2;pc4m5", 0, 1, 0, 5, 10);
        game("sw5h1;ca3;ca1;pc0m2;pc4m5", 0, 0, 1, 4, 2);
        s.of(31, "what a PERSON has: how many SQUARES its STATE has then, twice, if it is its LORD");
        game("sw5h4;p;p", 0, 0, 0, 40, 20);
        game("sw5h4;pm1;pm2;pm9", 0, 0, 0, 20, 20);
        game("sw1h1;pm4;pm4", 0, 0, 0, 2, 1);
    }

    private void resting() {
        s.of(32, "RESTS: 10 times x and y by which neither has more by another of its own: how many, the i-th (rising)");
        VelvetStates x = Check.room("sw4h1;ca0;pc0m2;pc3m5");
        s.due("rests(0, 1, -1)", x.rests(0, 1, -1), 3);
        s.due("rests(0, 1, 0)", x.rests(0, 1, 0), 0);
        s.due("rests(0, 1, 1)", x.rests(0, 1, 1), 1);
        s.due("rests(0, 1, 2)", x.rests(0, 1, 2), 10);
        s.due("rests(0, 1, 3)", x.rests(0, 1, 3), -1);
        restsByGames("sw4h1;ca0;pc0m2;pc3m5", 0);
        restsByGames("sw4h2l0m1;ca0k9;ca1k1;ca2o1;ca0d1;ca5;ca6o1;pc0m4;pc1m2;pc7m9", 1);
        restsByGames("sw5h1;ca3;ca1;pc0m2;pc4m5", 0);
        restsByGames("sw5h3;ca0;ca1;ca2o1;ca3;cd1;ca1d1o1;ca2d1;ca3d1;ca4d1;p;pc14", 0);
        restsByGames("sw5h3;ca0;ca1;ca2o1;ca3;cd1;ca1d1o1;ca2d1;ca3d1;ca4d1;ca9d1o1;pc2m5;pc14m4;pm6", 0);
        restsByGames("sw5h4;ca0o1;ca1o1;ca2o1;ca3o1;ca10o1;ca11o1;ca12o1;ca13o1;ca16o1;ca17o1;pc6;pc8m9", 0);
        restsByGames("sw5h2;ca0;ca1;ca2;ca3;ca5;ca6;ca7;ca8;cd1;ca4d1;pc2;pc7", 0);
        VelvetStates none = Check.room("p;p");
        s.due("rests(0, 1, -1), no CURTAINS", none.rests(0, 1, -1), 1);
        s.due("rests(0, 1, 0), no CURTAINS", none.rests(0, 1, 0), 0);
        s.due("rests(0, 1, 1), no CURTAINS", none.rests(0, 1, 1), -1);
        s.of(33, "TREATY of two PERSONS: whether neither of them, by drawing one CURTAIN alone, has more than now (1, 0)");
        s.due("treaty(0, 1), more for both", x.treaty(0, 1), 0);
        s.due("treaty(0, 1), no CURTAINS", none.treaty(0, 1), 1);
        s.due("treaty(0, 1), less for both", Check.room("sw4h1;ca0o1;pc0m2;pc3m5").treaty(0, 1), 1);
        s.due("treaty(0, 1), as much is no more", Check.room("sw4h1;ca1o1;pc0m2;pc3m5").treaty(0, 1), 1);
        s.due("treaty(0, 1), more for the one", Check.room("sw4h1;ca2o1;pc0m2;pc3m5").treaty(0, 1), 0);
        s.due("treaty(1, 0), more for the other", Check.room("sw4h1;ca2o1;pc0m2;pc3m5").treaty(1, 0), 0);
        s.due("treaty(0, 1), no right", Check.room("sw5h1;ca0;ca2;ca3;pc1;pc1").treaty(0, 1), 0);
        s.due("treaty(0, 1), FALLEN", Worlds.aged("sw4h1l0;ca2k1;pc0m2;pc3m5", 1).treaty(0, 1), 1);
    }

    /** The RESTS that the GAMES tell: at each pair that is one, none of the row, none of the column has more. */
    private void restsByGames(String room, int years) {
        VelvetStates x = Worlds.aged(room, years);
        int none = x.count(1);
        int[][] one = new int[none + 1][none + 1];
        int[][] other = new int[none + 1][none + 1];
        for (int i = 0; i <= none; i++) {
            for (int j = 0; j <= none; j++) {
                one[i][j] = x.game(0, 1, i, j, 0);
                other[i][j] = x.game(0, 1, i, j, 1);
            }
        }
        int found = 0;
        for (int i = 0; i <= none; i++) {
            for (int j = 0; j <= none; j++) {
                boolean rests = true;
                for (int k = 0; k <= none; k++) {
                    rests &= one[k][j] <= one[i][j] && other[i][k] <= other[i][j];
                }
                if (rests) {
                    s.due("rests(0, 1, " + found + ") of " + room, x.rests(0, 1, found), 10 * i + j);
                    found++;
                }
            }
        }
        s.due("rests(0, 1, -1) of " + room, x.rests(0, 1, -1), found);
        s.due("rests(0, 1, " + found + ") of " + room, x.rests(0, 1, found), -1);
    }

    private void breathing() {
        s.of(34, "AIR of a PERSON: how many SQUARES its STATE has, by how many PERSONS are in it, cut");
        s.due("air(0), 20 by 1", Check.room("sw5h4;p").air(0), 20);
        s.due("air(0), 5 by 2", Check.room("sw5h1;p;pc4").air(0), 2);
        s.due("air(0), 5 by 3", Check.room("sw5h1;p;p;p").air(0), 1);
        s.due("air(0), 1 by 2", Check.room("sw1h1;p;p").air(0), 0);
        s.due("air(0), 4 by 2", Check.room("sw5h1;ca3;p;p;pc4").air(0), 2);
        s.due("air(2), 1 by 1", Check.room("sw5h1;ca3;p;p;pc4").air(2), 1);
    }

    private void leaning() {
        s.of(35, "FADED (10 at most): somebody leant on a CURTAIN, or nobody did");
        VelvetStates full = Check.room("sw2h1;c;p;pc1");
        for (int i = 1; i <= 10; i++) {
            s.due("faded(0, true)", full.faded(0, true), i);
        }
        s.due("faded(0, true), an 11th", full.faded(0, true), -1);
        s.due("faded(0, false), an 11th", full.faded(0, false), -1);
        s.due("leant(1, -1), the 11th is not told", full.leant(1, -1), 2);
        s.of(36, "LEANT by k (1 .. 3) PERSONS: sets of k PERSONS (bits) by which all FADED is so, as they stand now: "
            + "on a CURTAIN one could lean that has a SQUARE on a side of it: how many, the i-th (rising)");
        VelvetStates x = Check.room("sw4h1;ca0;ca1o1;ca2;p;pc1;pc2;pc3");
        int[] many = {-1, 4, 6, 4, -1};
        for (int k = 0; k < many.length; k++) {
            s.due("leant(" + k + ", -1)", x.leant(k, -1), many[k]);
        }
        int[] pairs = {3, 5, 6, 9, 10, 12, -1};
        for (int i = 0; i < pairs.length; i++) {
            s.due("leant(2, " + i + ")", x.leant(2, i), pairs[i]);
        }
        x.faded(1, true);
        s.due("leant(1, 0), drawn back, too", x.leant(1, 0), 2);
        s.due("leant(1, 1)", x.leant(1, 1), 4);
        s.due("leant(1, 2)", x.leant(1, 2), -1);
        x.faded(0, false);
        s.due("leant(1, -1)", x.leant(1, -1), 1);
        s.due("leant(2, 0)", x.leant(2, 0), 12);
        s.due("leant(3, -1)", x.leant(3, -1), 0);
        x.go(2, 1);
        s.due("leant(1, -1), as they stand now", x.leant(1, -1), 0);
        s.due("leant(3, -1), two PERSONS", Check.room("p;p").leant(3, -1), 0);
        s.due("leant(2, 0), two PERSONS", Check.room("p;p").leant(2, 0), 3);
    }

    private void looking() {
        s.of(37, "SURE for k: PERSONS (bits) in all of these");
        VelvetStates x = Check.room("sw4h1;ca0;ca1;ca2;p;pc1;pc2;pc3");
        s.due("sure(1), none in all", x.sure(1), 0);
        s.due("sure(3), none in all", x.sure(3), 0);
        s.due("sure(1), the one or the other", Check.room("sw2h1;c;p;pc1").sure(1), 0);
        s.due("sure(1), the only one", Check.room("sw2h1;c;p").sure(1), 1);
        s.due("best(1), 2 and 2, of several the lowest", x.best(1), 0);
        x.faded(0, true);
        x.faded(2, true);
        s.due("leant(2, -1)", x.leant(2, -1), 4);
        s.due("sure(2)", x.sure(2), 0);
        x.faded(1, false);
        s.due("sure(2), the only set", x.sure(2), 9);
        VelvetStates y = Check.room("sw4h1;ca0;ca1;ca2;p;pc3;pc3;pc3");
        y.faded(0, true);
        s.due("sure(2), in all three", y.sure(2), 1);
        s.of(38, "LOOK for k: the CURTAIN by which yes and no are least apart in number among what fits (of several the lowest)");
        VelvetStates z = Check.room("sw5h1;ca0;ca1;ca2;ca3;p;pc2;pc4;pc4");
        // By one: c0 1 and 3, c1 1 and 3, c2 1 and 3, c3 2 and 2.
        s.due("best(1), the least apart", z.best(1), 3);
        s.due("best(3), of several the lowest", z.best(3), 0);
        // c0 1 and 3, c1 3 and 1: as far apart.
        s.due("best(1), 1 and 3, 3 and 1", Check.room("sw3h1;ca0;ca1;p;pc2;pc2;pc2").best(1), 0);
        s.due("best(1), 3 and 1, 1 and 3", Check.room("sw3h1;ca1;ca0;p;pc2;pc2;pc2").best(1), 0);
        s.due("best(1), 3 and 0, 2 and 1", Check.room("sw4h1;ca0;ca1;p;pc1;pc1").best(1), 1);
        s.due("best(1), one CURTAIN", Check.room("c;pc11").best(1), 0);
    }

    private void glancing() {
        s.of(39, "CROSS: SQUARES (bits) with CURTAINS that HANG on three sides or more");
        s.due("cross(), two", Check.room("sw3h3;ca3;ca4;p").cross(), 0);
        s.due("cross(), three", Check.room("sw3h3;ca3;ca4;ca1d1;p").cross(), 16);
        s.due("cross(), four", Check.room("sw3h3;ca3;ca4;ca1d1;ca4d1;p").cross(), 16);
        s.due("cross(), one of three drawn back", Check.room("sw3h3;ca3;ca4;ca1d1o1;p").cross(), 0);
        s.due("cross(), one of three FALLEN", Worlds.aged("sw3h3l0;ca3;ca4;ca1d1k1;p", 1).cross(), 0);
        s.due("cross(), walls are no CURTAINS", Check.room("sw1h3;cd1;ca1d1;p").cross(), 0);
        s.of(40, "REALM: the STATE (NAME) with the most SQUARES (of several the lowest)");
        s.due("realm(), of several the lowest", Check.room("sw4h1;ca1;p").realm(), 0);
        s.due("realm(), the other", Check.room("sw4h1;ca0;p").realm(), 1);
        s.due("realm(), of several the lowest", Check.room("sw5h1;ca0;ca2;p").realm(), 1);
        s.due("realm(), all alone", Check.room("sw3h1;ca0;ca1;p").realm(), 0);
        s.of(41, "GATHERED: CURTAINS (bits) that are drawn back and have not FALLEN");
        VelvetStates x = Worlds.aged("sw4h1l0;ca0k1;ca1o1;ca2;p", 1);
        s.due("gathered()", x.gathered(), 2);
        x.heat(99);
        x.centuries(1, Draws.seed(0, new int[] {100}, 0));
        s.due("gathered(), FALLEN and drawn back", x.gathered(), 6);
        s.of(42, "DARK: SQUARES (bits) that are LIT by 0");
        s.due("dark(), 3 2 1", Check.room("sw3h1l3;p").dark(), 0);
        s.due("dark(), 2 1 0", Check.room("sw3h1l2;p").dark(), 4);
        s.due("dark(), 1 0 0", Check.room("sw3h1l1;p").dark(), 6);
        s.due("dark(), 0 0 0", Check.room("sw3h1l0;p").dark(), 7);
        s.of(43, "BORDERS of a STATE: CURTAINS (bits) that HANG with just one SQUARE in it");
        VelvetStates y = Check.room("sw3h2;c;ca1;ca1d1o1;ca2d1;p");
        s.due("borders(0), both SQUARES in it", y.borders(0), 10);
        s.due("borders(2)", y.borders(2), 10);
        s.due("borders(0), drawn back", Check.room("sw2h1;co1;p").borders(0), 0);
        s.of(44, "GUEST: PERSONS (bits) that are in a STATE whose LORD is another one");
        s.due("guests(), alone", Check.room("p").guests(), 0);
        s.due("guests(), as mighty", Check.room("p;p").guests(), 2);
        s.due("guests(), mightier", Check.room("p;pm4").guests(), 1);
        s.due("guests(), parted", Check.room("sw2h1;c;p;pc1m4").guests(), 0);
    }
}
