/** Promises 14 to 23: pull, go, creep, mend, years, heat, centuries, status, undo, log. */
public final class ActPromisesTest {
    private static final Check check = new Check();

    public static void main(String[] args) {
        pulling();
        going();
        creeping();
        mending();
        yearsGoing();
        lastYears();
        fadingLight();
        heating();
        centuriesByHand();
        centuriesByDraws();
        statuses();
        undoing();
        logging();
        check.end("ActPromisesTest");
    }

    private static void status(VelvetStates x, int... due) {
        for (int what = 0; what < 5; what++) {
            check.due("21: status(" + what + ")", x.status(what), due[what]);
        }
    }

    private static void pulling() {
        VelvetStates x = Check.room("sw4h1;ca0k1;ca1;ca2o1;pc0;pc1;pc2");
        check.due("14: no such PERSON", x.pull(3, 0, true), -1);
        check.due("14: no such CURTAIN", x.pull(0, 3, true), -1);
        check.due("14: no such ones", x.pull(-1, -1, true), -1);
        status(x, 3, 0, 0, 0, 0);
        check.due("14: no right", x.pull(0, 1, true), -1);
        check.due("14: it is so", x.pull(1, 1, false), -1);
        check.due("14: it is so", x.pull(2, 2, true), -1);
        status(x, 3, 0, 3, 0, 0);
        check.due("14: back", x.pull(1, 1, true), 2);
        check.due("14: is back", x.curtain(1, 5), 1);
        check.due("14: let hang", x.pull(2, 2, false), 3);
        check.due("14: hangs", x.curtain(2, 6), 1);
        check.due("14: two ACTS", x.count(14), 2);
        check.due("14: one falls", x.years(1), 1);
        check.due("14: FALLEN", x.pull(0, 0, true), -1);
        status(x, 3, 0, 3, 1, 0);
        check.due("14: FALLEN, but it is so", x.pull(0, 0, false), -1);
        status(x, 3, 0, 4, 1, 0);
        check.due("14: refused is no ACT", x.count(14), 3);
        VelvetStates y = Check.room("sw4h1;ca0k1;ca2;pc3");
        y.years(1);
        check.due("14: FALLEN and no right", y.pull(0, 0, true), -1);
        status(y, 0, 0, 1, 0, 0);
    }

    private static void going() {
        VelvetStates x = Check.room("sw3h2;ca1;ca1d1;pc4m1");
        // 1 is open to 0 alone; 3, 4, 5, 2 and 0 are joined.
        check.due("15: no such PERSON", x.go(1, 0), -1);
        check.due("15: no such SQUARE", x.go(0, 6), -1);
        check.due("15: no such SQUARE", x.go(0, -1), -1);
        status(x, 3, 0, 0, 0, 0);
        check.due("15: it is there", x.go(0, 4), -1);
        status(x, 3, 0, 1, 0, 0);
        check.due("15: round the CURTAINS", x.go(0, 1), 0);
        check.due("15: there", x.person(0, 0), 1);
        VelvetStates y = Check.room("sw3h1;ca0;pc1");
        check.due("15: not in its STATE", y.go(0, 0), -1);
        status(y, 0, 0, 1, 0, 0);
        check.due("15: NAME", y.go(0, 2), 1);
        check.due("15: one ACT", y.count(14), 1);
    }

    private static void creeping() {
        VelvetStates x = Check.room("sw3h1;ca0g4;ca1g9o1;pc0m4;pc1m5;pc2m1");
        check.due("16: no such ones", x.creep(3, 0), -1);
        check.due("16: no such ones", x.creep(0, 2), -1);
        status(x, 2, 0, 0, 0, 0);
        check.due("16: too narrow", x.creep(1, 0), -1);
        check.due("16: not beside", x.creep(2, 0), -1);
        check.due("16: does not HANG", x.creep(1, 1), -1);
        status(x, 2, 0, 3, 0, 0);
        check.due("16: just wide enough", x.creep(0, 0), 1);
        check.due("16: there", x.person(0, 0), 1);
        check.due("16: and back again", x.creep(0, 0), 0);
        check.due("16: two ACTS", x.count(14), 2);
        VelvetStates y = Check.room("sw1h3;ca1d1g9;pc2");
        check.due("16: upwards", y.creep(0, 0), 1);
        check.due("16: downwards", y.creep(0, 0), 2);
        VelvetStates z = Check.room("sw2h1;ck1g9;p");
        z.years(1);
        check.due("16: FALLEN ones do not HANG", z.creep(0, 0), -1);
        status(z, 0, 0, 1, 0, 0);
    }

    private static void mending() {
        VelvetStates x = Check.room("sw3h1l0m1;ca0k1;ca1k90o1;p");
        check.due("17: no such one", x.mend(2, 0), -1);
        check.due("17: no such one", x.mend(-1, 1), -1);
        status(x, 2, 0, 0, 0, 0);
        check.due("17: 0", x.mend(0, 0), -1);
        check.due("17: 10", x.mend(0, 10), -1);
        status(x, 2, 2, 0, 0, 0);
        check.due("17: up to 99", x.mend(1, 9), 99);
        check.due("17: above 99", x.mend(1, 1), -1);
        status(x, 2, 3, 0, 0, 0);
        check.due("17: one more", x.mend(0, 1), 2);
        check.due("17: CLOTH", x.curtain(0, 3), 2);
        x.years(2);
        check.due("17: FALLEN", x.mend(0, 1), -1);
        status(x, 2, 3, 0, 1, 0);
        check.due("17: FALLEN, but out of bounds", x.mend(0, 10), -1);
        status(x, 2, 4, 0, 1, 0);
        check.due("17: ACTS", x.count(14), 4);
    }

    private static void yearsGoing() {
        VelvetStates x = Check.room(RoomPromisesTest.SIX);
        check.due("18: 0", x.years(0), -1);
        check.due("18: 61", x.years(61), -1);
        status(x, 0, 2, 0, 0, 0);
        check.due("18: one", x.years(1), 1);
        int[] cloth = {28, 7, 3};
        for (int c = 0; c < 3; c++) {
            check.due("18: CLOTH of " + c, x.curtain(c, 3), cloth[c]);
        }
        check.due("18: four", x.years(4), 5);
        int[] later = {20, 0, 3};
        for (int c = 0; c < 3; c++) {
            check.due("18: CLOTH later of " + c, x.curtain(c, 3), later[c]);
        }
        check.due("18: each is an ACT", x.count(14), 5);
        check.due("23: STATES", x.log(0, 0), 1);
        check.due("23: LIT", x.log(0, 1), 40 + 39 + 38 + 37 + 37 + 36);
        check.due("23: FELL", x.log(0, 2), 2);
        check.due("23: STATES ahead", x.log(1, 0), 2);
        check.due("23: LIT ahead", x.log(1, 1), 217);
        check.due("23: FELL ahead", x.log(1, 2), 0);
        VelvetStates y = new VelvetStates();
        check.due("18: no ROOM", y.years(0), -1);
        status(y, 1, 0, 0, 0, 0);
        VelvetStates z = Check.room("sw3h1l0m9;ca0k5;ca1k9;p");
        z.years(1);
        check.due("18: 0 at least", z.curtain(0, 3), 0);
        check.due("23: two FELL at once", z.log(0, 2), 3);
        z.years(1);
        check.due("23: FELL in its own YEAR alone", z.log(0, 2), 0);
    }

    private static void lastYears() {
        VelvetStates x = Check.room("sw1h1;p");
        for (int i = 0; i < 16; i++) {
            x.years(60);
        }
        check.due("18: 960", x.count(6), 960);
        check.due("18: beyond", x.years(40), -1);
        check.due("20: beyond", x.centuries(40, 1), -1);
        status(x, 0, 0, 0, 0, 1);
        check.due("18: the last", x.years(39), 999);
        check.due("18: none goes by", x.years(1), -1);
        check.due("18: out of bounds is the first reason", x.years(61), -1);
        status(x, 0, 1, 0, 0, 2);
        x.undo();
        check.due("20: the last", x.centuries(1, 1), 999);
        VelvetStates y = Check.room("sw2h1l0;ck99;p");
        for (int i = 0; i < 17; i++) {
            y.years(i < 1 ? 39 : 60);
            if (y.curtain(0, 3) > 0 && y.curtain(0, 5) == 0) {
                y.pull(0, 0, true);
            }
        }
        check.due("29: at 999", y.count(6), 999);
        check.due("14: hung again", y.pull(0, 0, false), 2);
        check.due("29: YEARS go on behind 999", y.first(1), 60);
        check.due("30: YEARS go on behind 999", y.cloth(60), 60);
    }

    private static void fadingLight() {
        // Both sides of c0 are LIT by 19 at most, one side of c1 by 20.
        VelvetStates x = Check.room("sw2h1l19m0;ck9;p");
        x.years(1);
        check.due("18: LIT by 19 does not fade", x.curtain(0, 3), 9);
        VelvetStates y = Check.room("sw2h1l20m0;ck9;p");
        y.years(1);
        check.due("18: LIT by 20 on one side fades", y.curtain(0, 3), 8);
        VelvetStates z = Check.room("sw3h1l21m0;ca1d0k9;p");
        z.years(1);
        check.due("18: the nearer side counts", z.curtain(0, 3), 8);
        // The light goes by how all was as the YEAR began: c0 falls, and only then is it bright behind.
        VelvetStates w = Check.room("sw3h1l40m1;ca0v9k1;ca1k30;p");
        Check.law(w, "y:c=0?30;y:1");
        w.years(1);
        check.due("18: still dark as it began", w.curtain(1, 3), 29);
        w.years(1);
        check.due("18: bright in the next", w.curtain(1, 3), 27);
        // LIT in the LOG is as it is then, by the new YEAR.
        VelvetStates v = Check.room("sw2h1l50m0;c;p");
        Check.law(v, "y:y*10");
        v.years(1);
        check.due("23: LIT by the new YEAR", v.log(0, 1), 50 + 39);
        v.years(2);
        check.due("23: LIT by the new YEAR", v.log(0, 1), 50 + 19);
    }

    private static void heating() {
        VelvetStates x = new VelvetStates();
        check.due("19: it is so", x.heat(0), false);
        check.due("19: below", x.heat(-1), false);
        check.due("19: above", x.heat(100), false);
        check.due("19: the most", x.heat(99), true);
        check.due("19: it is so", x.heat(99), false);
        check.due("19: HEAT", x.count(11), 99);
        check.due("19: to 0", x.heat(0), true);
        check.due("19: HEAT", x.count(11), 0);
        status(x, 0, 0, 0, 0, 0);
    }

    private static void centuriesByHand() {
        VelvetStates x = new VelvetStates();
        check.due("20: no ROOM", x.centuries(1, 1), -1);
        x = Check.room("sw5h4l0m0;p");
        check.due("20: 0", x.centuries(0, 1), -1);
        check.due("20: 61", x.centuries(61, 1), -1);
        check.due("20: sixty", x.centuries(60, 1), 60);
        status(x, 0, 0, 0, 0, 0);
        check.due("20: each YEAR is an ACT", x.count(14), 40);
        check.due("23: each is in the LOG", x.count(13), 60);
    }

    private static void centuriesByDraws() {
        for (long seed = -40; seed < 40; seed++) {
            VelvetStates x = Check.room("sw2h2l0m0;c;cd1o1;ca1d1k1;p;pc3");
            x.heat(40);
            int[] drawn = Draws.by(seed, 100, 3, 2, 4);
            boolean hot = drawn[0] < 40;
            if (hot) {
                drawn = Draws.by(seed, 100, 2, 4, 1);
            }
            int opened = hot ? 7 : 2 ^ 1 << drawn[1];
            int person = drawn[hot ? 1 : 2];
            int square = drawn[hot ? 2 : 3];
            check.due("20: a YEAR", x.centuries(1, seed), 1);
            check.due("20: drawn back by seed " + seed, x.gathered(), opened);
            int[] places = {0, 3};
            // The walls as they are behind the draw tell whether the one drawn may go.
            VelvetStates same = Check.room("sw2h2l0m0;co" + (opened & 1) + ";cd1o" + (opened >> 1 & 1)
                + ";ca1d1k1o" + (opened >> 2) + ";p;pc3");
            if (same.state(square) == same.state(places[person])) {
                places[person] = square;
            }
            check.due("20: PERSON 0 by seed " + seed, x.person(0, 0), places[0]);
            check.due("20: PERSON 1 by seed " + seed, x.person(1, 0), places[1]);
            check.due("20: one ACT", x.undo(), 0);
            check.due("20: UNDONE", x.gathered(), 2);
            check.due("20: UNDONE", x.person(0, 0) * 10 + x.person(1, 0), 3);
        }
        heatOnFallen();
        noCurtains();
    }

    private static void heatOnFallen() {
        long cold = 0;
        while (Draws.by(cold, 100)[0] < 99) {
            cold++;
        }
        VelvetStates x = Check.room("sw2h1l0;ck1;p");
        x.years(1);
        x.centuries(1, cold);
        check.due("20: a FALLEN one: nothing", x.curtain(0, 5), 0);
        x.heat(99);
        long hot = 0;
        while (Draws.by(hot, 100)[0] == 99) {
            hot++;
        }
        x.centuries(1, hot);
        check.due("20: all are drawn back by HEAT", x.curtain(0, 5), 1);
        check.due("41: but what has FALLEN is not GATHERED", x.gathered(), 0);
    }

    private static void noCurtains() {
        for (long seed = 0; seed < 20; seed++) {
            VelvetStates x = Check.room("sw5h4;p;p;p");
            int[] drawn = Draws.by(seed, 100, 3, 20);
            x.centuries(1, seed);
            check.due("20: no draw of CURTAINS, seed " + seed, x.person(drawn[1], 0), drawn[2]);
        }
    }

    private static void statuses() {
        VelvetStates x = new VelvetStates();
        check.due("21: no such what", x.status(5), -1);
        check.due("21: no such what", x.status(-1), -1);
        x.pull(0, 0, true);
        x.go(0, 0);
        x.creep(0, 0);
        x.mend(0, 99);
        x.years(1000);
        status(x, 5, 0, 0, 0, 0);
        Check.feed(x, "p;c");
        x.text(0);
        status(x, 5, 0, 0, 0, 0);
        x.mend(0, 1);
        x.mend(0, 0);
        x.undo();
        x.image();
        x.mend(0, 0);
        x.back();
        status(x, 5, 2, 0, 0, 0);
    }

    private static void undoing() {
        VelvetStates x = Check.room("sw3h1m1;ca0g9;ca1o1;pc1m2");
        check.due("22: none", x.undo(), -1);
        x.pull(0, 0, true);
        x.go(0, 2);
        x.pull(0, 0, false);
        x.go(0, 1);
        x.creep(0, 0);
        x.mend(1, 3);
        x.years(2);
        check.due("22: eight", x.count(14), 8);
        check.due("22: a YEAR", x.undo(), 7);
        check.due("22: the YEAR", x.count(6), 1);
        check.due("22: LOG, too", x.count(13), 1);
        check.due("22: CLOTH", x.curtain(0, 3), 28);
        check.due("22: a YEAR", x.undo(), 6);
        check.due("22: CLOTH", x.curtain(0, 3), 30);
        check.due("22: no LOG", x.log(0, 0), -1);
        check.due("22: mended", x.curtain(1, 3), 33);
        check.due("22: not mended", x.undo(), 5);
        check.due("22: CLOTH", x.curtain(1, 3), 30);
        check.due("22: crept", x.person(0, 0), 0);
        check.due("22: not crept", x.undo(), 4);
        check.due("22: there", x.person(0, 0), 1);
        check.due("22: not gone", x.undo(), 3);
        check.due("22: there", x.person(0, 0), 2);
        check.due("22: drawn back again", x.undo(), 2);
        check.due("22: drawn back", x.gathered(), 3);
        check.due("22: not gone", x.undo(), 1);
        check.due("22: not drawn", x.undo(), 0);
        check.due("22: as at first", x.gathered() * 10 + x.person(0, 0), 21);
        check.due("22: none", x.undo(), -1);
        VelvetStates y = Check.room("sw2h1;p");
        for (int i = 0; i < 45; i++) {
            y.go(0, 1 - i % 2);
        }
        check.due("22: forty at most", y.count(14), 40);
        for (int i = 39; i >= 0; i--) {
            check.due("22: one by one", y.undo(), i);
        }
        check.due("22: no more", y.undo(), -1);
        check.due("22: five stay", y.person(0, 0), 1);
    }

    private static void logging() {
        // By this LAW the LIT of all in the YEAR t is 99 and 98 - t.
        VelvetStates x = Check.room("sw2h1l99m0;ck99;p");
        Check.law(x, "y:y");
        check.due("23: empty", x.log(0, 0), -1);
        x.years(60);
        x.years(38);
        check.due("23: sixty at most", x.count(13), 60);
        for (int i = 0; i < 60; i++) {
            check.due("23: LIT of the YEAR " + (98 - i), x.log(i, 1), 197 - (98 - i));
        }
        check.due("23: no older one", x.log(60, 1), -1);
        check.due("23: no such what", x.log(0, 3), -1);
        check.due("23: no such what", x.log(0, -1), -1);
        check.due("23: no such one", x.log(-1, 0), -1);
        for (int i = 0; i < 40; i++) {
            x.undo();
            check.due("22: LOG, too", x.count(13), Math.min(60, 97 - i));
            check.due("23: the oldest is there again", x.log(x.count(13) - 1, 1), 197 - Math.max(1, 38 - i));
            check.due("23: the latest", x.log(0, 1), 197 - (97 - i));
        }
        x.years(2);
        check.due("23: written anew", x.log(0, 1), 197 - 60);
    }
}
