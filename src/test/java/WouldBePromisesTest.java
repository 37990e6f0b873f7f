/** Promises 24 to 38: join, hide, seen, under, lead, first, cloth, game, rests, treaty, air, faded, leant, sure, best. */
public final class WouldBePromisesTest {
    private static final Check check = new Check();

    // 0|1   c0 parts 0 and 1, c1 parts 0 and 2; c2 (1 and 3) and c3 (2 and 3) are drawn back.
    // -
    // 2 3
    private static final String FOUR = "sw2h2m1;c;cd1;ca1d1o1;ca2o1;";

    public static void main(String[] args) {
        joining();
        hiding();
        seeing();
        goingUnder();
        fallingFirst();
        losingCloth();
        games();
        resting();
        treaties();
        airs();
        leaning();
        nothingChanges();
        check.end("WouldBePromisesTest");
    }

    private static void joining() {
        VelvetStates x = Check.room(FOUR + "p");
        check.due("24: by the least of two", x.join(9, 0), 1);
        check.due("24: round the other", x.join(9, 2), 6);
        check.due("24: round the other", x.join(9, 4), 9);
        check.due("24: alone", x.join(8, 6), 12);
        check.due("24: it is so", x.join(1, 14), 0);
        check.due("24: it is so", x.join(14, 1), 0);
        check.due("24: all", x.join(15, 0), 1);
        check.due("24: one and no other", x.join(2, 0), 0);
        check.due("24: in both", x.join(3, 2), -1);
        check.due("24: none of the first", x.join(0, 1), -1);
        check.due("24: no such SQUARES", x.join(16, 0), -1);
        check.due("24: no such others", x.join(1, 16), -1);
        check.due("24: no such SQUARES", x.join(-1, 0), -1);
        check.due("24: no such others", x.join(1, Integer.MIN_VALUE), -1);
        VelvetStates y = Check.room("sw2h1l0;ck1;p");
        y.years(1);
        check.due("24: FALLEN ones part nothing", y.join(1, 2), -1);
        check.due("24: FALLEN ones part nothing", y.join(3, 0), 0);
        check.due("24: no CURTAIN, no parting", Check.room("sw2h1;p").join(1, 2), -1);
        // Fewest goes ahead of least: c2 alone (4), not c0 with c1 (3).
        VelvetStates z = Check.room("sw3h2;ca0;ca1;ca0d1;ca1d1;p");
        check.due("24: the fewest", z.join(5, 0), 4);
        check.due("24: 3 always goes with 2", z.join(5, 8), -1);
    }

    private static void hiding() {
        VelvetStates x = Check.room(FOUR + "p");
        check.due("25: it is so", x.hide(1, 2, 2), 0);
        check.due("25: by the least of two", x.hide(1, 2, 3), 4);
        check.due("25: by one", x.hide(1, 2, 10), 4);
        check.due("25: by both", x.hide(1, 2, 11), 12);
        check.due("25: by both", x.hide(1, 2, 18), 12);
        check.due("25: there is none", x.hide(1, 2, 19), -1);
        check.due("25: from itself", x.hide(1, 1, 1), -1);
        check.due("25: 0", x.hide(1, 2, 0), -1);
        check.due("25: 100", x.hide(1, 2, 100), -1);
        check.due("25: 99", Check.room("sw2h1;p").hide(0, 1, 99), -1);
        check.due("25: no such SQUARES", x.hide(4, 0, 1), -1);
        check.due("25: no such SQUARES", x.hide(0, 4, 1), -1);
        check.due("25: no such SQUARES", x.hide(-1, 0, 1), -1);
        Check.law(x, "y:c=3?50;y:1");
        check.due("25: by the LAW", x.hide(1, 2, 30), -1);
        check.due("25: by the LAW", x.hide(1, 3, 2), 4);
        VelvetStates y = Check.room("sw2h1l0;ck1;p");
        y.years(1);
        check.due("25: FALLEN ones hide nothing", y.hide(0, 1, 2), -1);
    }

    private static void seeing() {
        VelvetStates x = Check.room(FOUR + "p");
        check.due("26: by 1", x.seen(1, 1), 2);
        check.due("26: by 2", x.seen(1, 2), 10);
        check.due("26: by 3", x.seen(1, 3), 14);
        check.due("26: by 9", x.seen(1, 9), 14);
        check.due("26: over the CURTAIN", x.seen(1, 10), 15);
        check.due("26: 0", x.seen(1, 0), -1);
        check.due("26: 99", x.seen(1, 99), 15);
        check.due("26: 100", x.seen(1, 100), -1);
        check.due("26: no such SQUARE", x.seen(4, 1), -1);
        check.due("26: no such SQUARE", x.seen(-1, 1), -1);
    }

    private static void goingUnder() {
        VelvetStates x = Check.room("sw4h1;ca0g3;ca1g2;ca2g3;p");
        check.due("27: under three", x.under(0, 3, 2), 3);
        check.due("27: no way", x.under(0, 3, 3), -1);
        check.due("27: under one", x.under(3, 2, 3), 1);
        check.due("27: itself", x.under(1, 1, 9), 0);
        check.due("27: 0", x.under(0, 3, 0), 3);
        check.due("27: below", x.under(0, 3, -1), -1);
        check.due("27: above", x.under(0, 0, 10), -1);
        check.due("27: no such SQUARES", x.under(0, 4, 1), -1);
        check.due("27: no such SQUARES", x.under(-1, 0, 1), -1);
        check.due("28: LEAD 0", x.lead(0), 7);
        check.due("28: LEAD 2", x.lead(2), 7);
        check.due("28: LEAD 3", x.lead(3), 5);
        check.due("28: LEAD 4", x.lead(4), 0);
        check.due("28: LEAD 9", x.lead(9), 0);
        check.due("28: below", x.lead(-1), -1);
        check.due("28: above", x.lead(10), -1);
        VelvetStates y = Check.room(FOUR + "p");
        check.due("28: only those that HANG", y.lead(1), 3);
        check.due("27: round, without one", y.under(1, 2, 9), 0);
        // Straight on under three, or round under one.
        VelvetStates z = Check.room("sw4h2;ca0;ca1;ca2;cd1;p");
        check.due("27: the fewest", z.under(0, 3, 1), 1);
    }

    private static void fallingFirst() {
        VelvetStates x = Check.room(RoomPromisesTest.SIX);
        check.due("29: the CURTAIN", x.first(0), 1);
        check.due("29: YEARS", x.first(1), 5);
        check.due("29: no such what", x.first(2), -1);
        check.due("29: no such what", x.first(-1), -1);
        check.due("29: of several the lowest", Check.room("sl0;ca0o1k1;ca1k7;ca2k7;p").first(0), 1);
        check.due("29: 1 at least", Check.room("sl0;ck1;p").first(1), 1);
        check.due("29: never", Check.room("sl0m0;ck1;p").first(0), -1);
        check.due("29: never", Check.room("sl0m0;ck1;p").first(1), -1);
        check.due("29: none HANGS", Check.room("co1;p").first(1), -1);
        check.due("29: no CURTAIN", Check.room("p").first(0), -1);
        // c1 is in the dark till c0 lets the light through in the YEAR 50: then it lasts 40 YEARS.
        VelvetStates y = Check.room("sw4h1l23m0;ca0k99;ca2k40;p");
        Check.law(y, "y:c=0&y<50?9;y:1");
        check.due("29: by the light of then", y.first(0), 1);
        check.due("29: by the YEAR of then", y.first(1), 90);
        y.law(-1);
        check.due("29: in the dark", y.first(0), 0);
        check.due("29: in the dark", y.first(1), 99);
    }

    private static void losingCloth() {
        VelvetStates x = Check.room(RoomPromisesTest.SIX);
        check.due("30: one YEAR", x.cloth(1), 4);
        check.due("30: five", x.cloth(5), 19);
        check.due("30: six", x.cloth(6), 21);
        check.due("30: sixty", x.cloth(60), 39);
        check.due("30: 0", x.cloth(0), -1);
        check.due("30: 61", x.cloth(61), -1);
        check.due("30: none", Check.room("p").cloth(9), 0);
        x.years(5);
        check.due("30: FALLEN ones lose nothing", x.cloth(1), 2);
    }

    private static void games() {
        VelvetStates x = Check.room(FOUR + "pc0m2;pc3m5");
        int[][] due = {{4, 4, 2, 6}, {0, 4, 4, 8}, {2, 4, 2, 6}, {0, 0, 4, 8}, {0, 1, 4, 8}, {4, 2, 2, 4},
            {0, 2, 4, 4}, {1, 2, 3, 6}, {0, 3, 3, 6}, {1, 3, 4, 4}, {4, 3, 2, 4}};
        for (int[] d : due) {
            String call = "31: game(0, 1, " + d[0] + ", " + d[1] + ")";
            check.due(call, x.game(0, 1, d[0], d[1], 0), d[2]);
            check.due(call, x.game(0, 1, d[0], d[1], 1), d[3]);
            check.due(call + " turned", x.game(1, 0, d[1], d[0], 1), d[2]);
        }
        check.due("31: alike", x.game(0, 0, 4, 4, 0), -1000000);
        check.due("31: no such PERSON", x.game(0, 2, 4, 4, 0), -1000000);
        check.due("31: no such PERSON", x.game(-1, 1, 4, 4, 0), -1000000);
        check.due("31: x", x.game(0, 1, 5, 4, 0), -1000000);
        check.due("31: x", x.game(0, 1, -1, 4, 0), -1000000);
        check.due("31: y", x.game(0, 1, 4, 5, 0), -1000000);
        check.due("31: y", x.game(0, 1, 4, -1, 0), -1000000);
        check.due("31: what", x.game(0, 1, 4, 4, 2), -1000000);
        check.due("31: what", x.game(0, 1, 4, 4, -1), -1000000);
        VelvetStates y = Check.room("sw3h1l0;ca0k1;ca1;pc0;pc2m4");
        y.years(1);
        check.due("31: FALLEN: nothing", y.game(0, 1, 0, 2, 0), 4);
        check.due("31: a LORD who is not of the two", Check.room("sw2h1;p;p;pm9").game(0, 1, 0, 0, 0), 2);
    }

    private static void resting() {
        VelvetStates x = Check.room(FOUR + "pc0m2;pc3m5");
        int[] due = {0, 1, 4, 10, 11, 14, 20, 21, 30, 31, 40, 41};
        check.due("32: how many", x.rests(0, 1, -1), due.length);
        for (int i = 0; i < due.length; i++) {
            check.due("32: rests(0, 1, " + i + ")", x.rests(0, 1, i), due[i]);
        }
        check.due("32: no such one", x.rests(0, 1, 12), -1);
        check.due("32: no such one", x.rests(0, 1, -2), -1);
        check.due("32: turned", x.rests(1, 0, 1), 1);
        check.due("32: turned", x.rests(1, 0, 5), 10);
        check.due("32: alike", x.rests(1, 1, -1), -1);
        check.due("32: no such PERSONS", x.rests(0, 2, -1), -1);
        check.due("32: no such PERSONS", x.rests(-1, 0, -1), -1);
        check.due("32: without CURTAINS", Check.room("p;p").rests(0, 1, -1), 1);
        check.due("32: without CURTAINS", Check.room("p;p").rests(0, 1, 0), 0);
    }

    private static void treaties() {
        VelvetStates x = Check.room(FOUR + "pc0m2;pc3m5");
        check.due("33: the one would have more", x.treaty(0, 1), 0);
        check.due("33: turned", x.treaty(1, 0), 0);
        check.due("33: alike", x.treaty(0, 0), -1);
        check.due("33: no such PERSONS", x.treaty(0, 2), -1);
        check.due("33: no such PERSONS", x.treaty(-1, 0), -1);
        // Both are LORDS of half; joined, the one has as many as now, the other more.
        VelvetStates y = Check.room("sw4h1;ca1;pc0m4;pc3m4");
        check.due("33: the LORD would have more", y.treaty(0, 1), 0);
        VelvetStates z = Check.room("sw4h1;ca1;pc0m4;pc3m4;pc0m9");
        check.due("33: only the other would", z.treaty(0, 1), 0);
        VelvetStates w = Check.room("sw4h1;ca1;pc0m4;pc3m4;pc2m9;pc0m9");
        check.due("33: both would", w.treaty(0, 1), 0);
        VelvetStates v = Check.room("sw4h1;ca1o1;pc0m4;pc1m5");
        check.due("33: neither would", v.treaty(0, 1), 1);
        VelvetStates u = Check.room("sw4h1;ca0o1;pc1m4;pc2m5");
        check.due("33: neither by parting", u.treaty(0, 1), 1);
        VelvetStates t = Check.room("sw4h1;ca2o1;pc1m4;pc3m5");
        check.due("33: one by parting", t.treaty(0, 1), 0);
    }

    private static void airs() {
        VelvetStates x = Check.room(FOUR + "pc0m2;pc3m5;pc1");
        check.due("34: alone", x.air(0), 1);
        check.due("34: cut", x.air(1), 1);
        check.due("34: cut", x.air(2), 1);
        check.due("34: no such PERSON", x.air(3), -1);
        check.due("34: no such PERSON", x.air(-1), -1);
        check.due("34: less than one", Check.room("sw1h1;p;p").air(0), 0);
        check.due("34: twelve by two", Check.room("p;pc9").air(1), 6);
    }

    private static void leaning() {
        VelvetStates x = Check.room(FOUR + "pc0;pc3;pc1");
        check.due("36: by one", x.leant(1, -1), 3);
        check.due("36: by two", x.leant(2, -1), 3);
        check.due("36: by three", x.leant(3, -1), 1);
        check.due("36: by three", x.leant(3, 0), 7);
        check.due("36: k 4", x.leant(4, -1), -1);
        check.due("36: k 0", x.leant(0, -1), -1);
        check.due("36: no such one", x.leant(1, 3), -1);
        check.due("36: no such one", x.leant(1, -2), -1);
        check.due("35: no such CURTAIN", x.faded(4, true), -1);
        check.due("35: no such CURTAIN", x.faded(-1, true), -1);
        check.due("35: one", x.faded(0, true), 1);
        check.due("36: of one", x.leant(1, 0), 1);
        check.due("36: of one", x.leant(1, 1), 4);
        check.due("36: of two", x.leant(2, -1), 3);
        check.due("37: nobody", x.sure(1), 0);
        check.due("38: the one that parts them", x.best(1), 1);
        check.due("35: two", x.faded(3, false), 2);
        check.due("36: the only two", x.leant(2, 0), 5);
        check.due("36: no more", x.leant(2, 1), -1);
        check.due("37: both", x.sure(2), 5);
        check.due("38: of several the lowest", x.best(2), 0);
        check.due("35: three", x.faded(1, false), 3);
        check.due("36: the only one", x.leant(1, 0), 4);
        check.due("36: none of two", x.leant(2, -1), 0);
        check.due("37: nothing fits", x.sure(2), -1);
        check.due("38: nothing fits", x.best(2), -1);
        check.due("37: k 0", x.sure(0), -1);
        check.due("37: k 4", x.sure(4), -1);
        check.due("38: k 0", x.best(0), -1);
        check.due("38: k 4", x.best(4), -1);
        x.go(2, 2);
        check.due("36: as they stand now", x.leant(1, -1), 0);
        for (int i = 4; i <= 10; i++) {
            check.due("35: as many", x.faded(0, true), i);
        }
        check.due("35: there are ten", x.faded(0, true), -1);
        check.due("47: FADED", x.count(12), 10);
        VelvetStates y = Check.room("sw2h1;p;pc1");
        check.due("38: no CURTAIN", y.best(1), -1);
        check.due("37: two of two", y.sure(2), 3);
        check.due("36: three of two", y.leant(3, -1), 0);
        VelvetStates z = Check.room("sw2h1;p;pc1;c");
        z.faded(0, true);
        z.faded(0, false);
        check.due("36: yes and no at once", z.leant(1, -1), 0);
        VelvetStates w = Check.room("sw2h1;p;pc1;co1");
        w.faded(0, true);
        check.due("36: drawn back or not", w.leant(1, -1), 2);
    }

    private static int all(VelvetStates x) {
        int found = 0;
        for (int what = 0; what < 15; what++) {
            found = found * 31 + x.count(what);
        }
        for (int p = 0; p < x.count(2); p++) {
            found = found * 31 + x.person(p, 0);
        }
        for (int c = 0; c < x.count(1); c++) {
            found = found * 31 + x.curtain(c, 3);
        }
        return found;
    }

    private static void nothingChanges() {
        VelvetStates x = Check.room(FOUR + "pc0m2;pc3m5;pc1");
        int before = all(x);
        x.join(9, 2);
        x.hide(1, 2, 11);
        x.seen(0, 9);
        x.under(0, 3, 1);
        x.first(0);
        x.cloth(60);
        x.game(0, 1, 0, 1, 0);
        x.rests(0, 1, -1);
        x.treaty(0, 1);
        x.best(2);
        check.due("24 to 38: apart from as it is", all(x), before);
    }
}
