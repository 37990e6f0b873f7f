/** The terms, part 2: what hangs, STATES, light, YEARS, what is done by hand. */
final class TermsOfStates {
    private final Sentences s;

    private TermsOfStates(Sentences s) {
        this.s = s;
    }

    static void ask(Sentences s) {
        TermsOfStates terms = new TermsOfStates(s);
        terms.hanging();
        terms.states();
        terms.taking();
        terms.brightness();
        terms.wearing();
        terms.falling();
        terms.lastYear();
        terms.latestSixty();
        terms.drawing();
        terms.creeping();
        terms.mending();
        terms.latestForty();
        terms.statuses();
    }

    private void hanging() {
        s.of(7, "A CURTAIN HANGS, if it is not drawn back and has not FALLEN (CLOTH 0; it stays so)");
        VelvetStates x = Check.room("sw4h1l0m1;ca0k1;ca1k1o1;ca2k2;p");
        s.due("curtain(0, 6), not drawn back", x.curtain(0, 6), 1);
        s.due("curtain(1, 6), drawn back", x.curtain(1, 6), 0);
        x.years(1);
        s.due("curtain(0, 6), FALLEN", x.curtain(0, 6), 0);
        s.due("curtain(0, 5), FALLEN, not drawn back", x.curtain(0, 5), 0);
        s.due("curtain(1, 3), drawn back, so not worn", x.curtain(1, 3), 1);
        s.due("curtain(2, 6), CLOTH 1", x.curtain(2, 6) * 10 + x.curtain(2, 3), 11);
        s.due("count(9)", x.count(9), 1);
        s.due("mend(0, 9)", x.mend(0, 9), -1);
        x.pull(0, 0, true);
        x.pull(0, 0, false);
        x.centuries(60, 7);
        s.due("curtain(0, 3), it stays so", x.curtain(0, 3), 0);
        s.due("curtain(0, 6), it stays so", x.curtain(0, 6), 0);
        s.due("count(9), it stays so", x.count(9) & 1, 1);
    }

    private void states() {
        s.of(10, "A STATE: SQUARES that are joined by sides without a CURTAIN that HANGS; its NAME: its lowest SQUARE");
        VelvetStates x = Check.room("sw3h2;c;cd1;ca4o1;p");
        int[] due = {0, 1, 1, 1, 1, 1};
        for (int square = 0; square < 6; square++) {
            s.due("state(" + square + ")", x.state(square), due[square]);
        }
        s.due("state(0) of a ROOM with one SQUARE", Check.room("sw1h1;p").state(0), 0);
        s.due("state(2), no way by a corner", Check.room("sw2h2;c;cd1;ca1d1;p").state(0), 0);
        s.due("state(3), no way by a corner", Check.room("sw2h2;c;cd1;ca1d1;p").state(3), 2);
        s.of(11, "LORD of a STATE: the PERSON in it with the most MIGHT (of several the lowest number)");
        VelvetStates y = Check.room("sw3h1;ca1;pm2;pc1m5;pm5;pc2m9");
        s.due("lord(0)", y.lord(0), 1);
        s.due("lord(1)", y.lord(1), 1);
        s.due("lord(2)", y.lord(2), 3);
        s.of(13, "Two unlike STATES touch, if a CURTAIN that HANGS parts SQUARES of both");
        VelvetStates z = Check.room("sw4h1;ca0;ca1;ca2o1;p");
        s.due("touch(0, 1)", z.touch(0, 1), 1);
        s.due("touch(1, 0)", z.touch(1, 0), 1);
        s.due("touch(1, 3)", z.touch(1, 3), 1);
        s.due("touch(0, 2), with one between", z.touch(0, 2), 0);
        s.due("touch(2, 3), alike", z.touch(2, 3), 0);
        s.due("touch(0, 0), the same", z.touch(0, 0), 0);
        s.due("touch(0, 1), a CURTAIN within one STATE", Check.room("sw2h2;c;p").touch(0, 1), 0);
    }

    private static int taken(String room, String law) {
        VelvetStates x = Check.room(room);
        if (!law.isEmpty()) {
            Check.law(x, law);
        }
        return x.curtain(0, 7);
    }

    private void taking() {
        s.of(7, "WORTH by the LAW that holds, held within 1 .. 99");
        s.due("-1", taken("c;p", "y:0-1"), 1);
        s.due("0", taken("c;p", "y:0"), 1);
        s.due("1", taken("c;p", "y:1"), 1);
        s.due("2", taken("c;p", "y:2"), 2);
        s.due("98", taken("c;p", "y:98"), 98);
        s.due("99", taken("c;p", "y:99"), 99);
        s.due("100", taken("c;p", "y:100"), 99);
        s.due("a million", taken("c;p", "y:9999*9999"), 99);
        s.due("minus a million", taken("c;p", "y:0-9999*9999"), 1);
        s.of(7, "(none at first: VEIL and CLOTH by 10, cut)");
        s.due("no LAW holds", Check.room("c;p").count(5), -1);
        s.due("v5k30", taken("c;p", ""), 8);
        s.due("v5k39", taken("ck39;p", ""), 8);
        s.due("v5k40", taken("ck40;p", ""), 9);
        s.due("v9k99", taken("cv9k99;p", ""), 18);
        s.due("v0k19", taken("cv0k19;p", ""), 1);
        s.due("v0k20", taken("cv0k20;p", ""), 2);
        s.due("v0k9, held too", taken("cv0k9;p", ""), 1);
    }

    private void lit(String room, int... due) {
        VelvetStates x = Check.room(room);
        for (int square = 0; square < due.length; square++) {
            s.due("lit(" + square + ") of " + room, x.lit(square), due[square]);
        }
    }

    private void brightness() {
        s.of(12, "BRIGHT from a SQUARE with n: the SQUARE itself n");
        lit("sw1h1l0;p", 0);
        lit("sw1h1l99;p", 99);
        s.of(12, "over a CURTAIN that HANGS besides what it TAKES less");
        lit("sw3h1l40;ca0v3k9;ca1v3k9o1;p", 40, 36, 35);
        s.of(12, "of all ways the most; 0 at least");
        lit("sw2h2l40;cv9k99;p", 40, 37, 39, 38);
        lit("sw2h2l40;cv1k9;p", 40, 38, 39, 38);
        lit("sw2h2l40;cv2k9;p", 40, 37, 39, 38);
        lit("sw5h1l2;p", 2, 1, 0, 0, 0);
        // A way down, up and down again, as all others take too much.
        lit("sw3h3l40;ca0v9k99;ca3v9k99;ca4v9k99;ca7v9k99;p", 40, 35, 34, 39, 36, 33, 38, 37, 32);
        lit("sw2h1l9;cv7k10;p", 9, 0);
        lit("sw2h1l10;cv7k10;p", 10, 1);
        lit("sw3h1l5;cv9k99;p", 5, 0, 0);
    }

    private int clothAfterOne(String room, int curtain) {
        VelvetStates x = Check.room(room);
        x.years(1);
        return x.curtain(curtain, 3);
    }

    private void wearing() {
        s.of(18, "CLOTH is less by MOTHS, and by 1 more, if one of its two SQUARES is LIT by 20 or more");
        s.due("LIT by 19, no MOTHS", clothAfterOne("sw2h1l19m0;ck50;p", 0), 50);
        s.due("LIT by 20, no MOTHS", clothAfterOne("sw2h1l20m0;ck50;p", 0), 49);
        s.due("LIT by 19, 9 MOTHS", clothAfterOne("sw2h1l19m9;ck50;p", 0), 41);
        s.due("LIT by 20, 9 MOTHS", clothAfterOne("sw2h1l20m9;ck50;p", 0), 40);
        s.due("both LIT by 20 and more: once", clothAfterOne("sw2h1l99m2;ck50;p", 0), 47);
        // 2 is dark behind c0, but 3 is LIT by way of 1: the higher one of c1's SQUARES.
        s.due("the other SQUARE LIT by 20", clothAfterOne("sw2h2l22m0;cd1v9k99;ca2v9k99;p", 1), 98);
        s.due("the other SQUARE LIT by 19", clothAfterOne("sw2h2l21m0;cd1v9k99;ca2v9k99;p", 1), 99);
        s.of(18, "(1) each CURTAIN that HANGS, by how all is LIT as it began");
        s.due("drawn back: nothing", clothAfterOne("sw2h1l99m9;ck50o1;p", 0), 50);
        VelvetStates x = Check.room("sw3h1l40m1;ca0k1;ca1k30;p");
        Check.law(x, "y:c=0?30;y:1");
        x.years(1);
        s.due("c1 was in the dark as the YEAR began", x.curtain(1, 3), 29);
        x.years(1);
        s.due("c1 is in the light, as c0 has FALLEN", x.curtain(1, 3), 27);
    }

    private void falling() {
        s.of(18, "0 at least: with 0 it FALLS");
        s.due("9 by 9", clothAfterOne("sw2h1l0m9;ck9;p", 0), 0);
        s.due("8 by 9", clothAfterOne("sw2h1l0m9;ck8;p", 0), 0);
        s.due("1 by 9 and 1", clothAfterOne("sw2h1l99m9;ck1;p", 0), 0);
        s.due("10 by 9", clothAfterOne("sw2h1l0m9;ck10;p", 0), 1);
        VelvetStates x = Check.room("sw3h1l0m9;ca0k9;ca1k10;p");
        x.years(1);
        s.due("count(9)", x.count(9), 1);
        s.due("count(8)", x.count(8), 2);
        s.due("log(0, 2)", x.log(0, 2), 1);
        x.years(1);
        s.due("log(0, 2), the next YEAR", x.log(0, 2), 2);
        x.years(1);
        s.due("log(0, 2), none FELL", x.log(0, 2), 0);
    }

    private void lastYear() {
        s.of(18, "(2) the YEAR is one later (0 at first; 999 at most: none goes by then)");
        VelvetStates x = Check.room("sw1h1;p");
        s.due("count(6) at first", x.count(6), 0);
        s.due("years(1)", x.years(1), 1);
        s.due("count(6)", x.count(6), 1);
        VelvetStates y = Worlds.aged("sw1h1;p", 998);
        s.due("count(6)", y.count(6), 998);
        s.due("years(1)", y.years(1), 999);
        s.due("years(1), none goes by", y.years(1), -1);
        s.due("centuries(1, 1), none goes by", y.centuries(1, 1), -1);
        s.due("count(6)", y.count(6), 999);
        s.due("log(0, 0)", y.log(0, 0), 1);
        s.due("status(4)", y.status(4), 1);
    }

    private void latestSixty() {
        s.of(23, "LOG: how many STATES there are then, LIT of all SQUARES together, which FELL (bits; the latest 60)");
        // By this LAW the LIT of all in the YEAR t is 99 and 98 - t.
        VelvetStates x = Check.room("sw2h1l99m0;ck99;p");
        Check.law(x, "y:y");
        x.years(59);
        s.due("count(13), 59 YEARS", x.count(13), 59);
        s.due("log(58, 1), the first YEAR", x.log(58, 1), 196);
        s.due("log(59, 1)", x.log(59, 1), -1);
        x.years(1);
        s.due("count(13), 60 YEARS", x.count(13), 60);
        s.due("log(59, 1), the first YEAR", x.log(59, 1), 196);
        x.years(1);
        s.due("count(13), 61 YEARS", x.count(13), 60);
        s.due("log(59, 1), the second YEAR", x.log(59, 1), 195);
        s.due("log(60, 1)", x.log(60, 1), -1);
        s.due("log(0, 1), the latest", x.log(0, 1), 197 - 61);
        x.undo();
        s.due("log(59, 1), the first YEAR again", x.log(59, 1), 196);
        VelvetStates y = Check.room("sw4h1l0m5;ca0k5;ca1k9;ca2k5;p");
        y.years(2);
        s.due("log(1, 0), STATES as two FELL", y.log(1, 0), 2);
        s.due("log(1, 2), two FELL", y.log(1, 2), 5);
        s.due("log(0, 0), STATES as all FELL", y.log(0, 0), 1);
        s.due("log(0, 2), the last FELL", y.log(0, 2), 2);
        s.due("log(0, 1), all is dark", y.log(0, 1), 0);
    }

    private void drawing() {
        s.of(14, "a PERSON DRAWS a CURTAIN (back, or lets it hang), if the PERSON's STATE has one of its two SQUARES");
        VelvetStates x = Check.room("sw5h1;ca0;ca1;ca2;ca3;pc1");
        s.due("pull(0, 2, true), neither SQUARE", x.pull(0, 2, true), -1);
        s.due("pull(0, 1, true), the lower one", x.pull(0, 1, true), 4);
        s.due("pull(0, 0, true), the higher one", x.pull(0, 0, true), 3);
        s.due("pull(0, 3, true), neither yet", x.pull(0, 3, true), -1);
        s.due("pull(0, 2, true), now the lower one", x.pull(0, 2, true), 2);
        s.due("pull(0, 0, false), both", x.pull(0, 0, false), 3);
        s.due("pull(0, 0, true), the higher one", x.pull(0, 0, true), 2);
        s.of(15, "a PERSON GOES to a SQUARE of the same STATE");
        VelvetStates y = Check.room("sw3h2;ca1;ca1d1;ca0d1;p");
        s.due("go(0, 1)", y.go(0, 1), 0);
        s.due("go(0, 2)", y.go(0, 2), -1);
        s.due("go(0, 4)", y.go(0, 4), -1);
        s.due("go(0, 0)", y.go(0, 0), 0);
    }

    private void creeping() {
        s.of(16, "one CREEPS under a CURTAIN that HANGS beside its SQUARE, if its GAP is no less than the MIGHT");
        VelvetStates x = Check.room("sw4h1l0m1;ca0g4k9;ca1g9k9;ca2g9k1;pm3;pm4;pm5;pc3m9");
        s.due("creep(2, 0), less", x.creep(2, 0), -1);
        s.due("creep(1, 0), as much", x.creep(1, 0), 1);
        s.due("creep(0, 0), more", x.creep(0, 0), 1);
        s.due("creep(2, 1), not beside", x.creep(2, 1), -1);
        s.due("creep(0, 0), from the other side", x.creep(0, 0), 0);
        x.years(1);
        s.due("creep(3, 2), FALLEN", x.creep(3, 2), -1);
        x.pull(1, 1, true);
        s.due("creep(1, 1), drawn back", x.creep(1, 1), -1);
        s.due("creep(0, 0), a GAP of 0 is too narrow for all", Check.room("cg0;pm1").creep(0, 0), -1);
        s.due("creep(0, 0), the most", Check.room("cg9;pm9").creep(0, 0), 1);
    }

    private void mending() {
        s.of(17, "a CURTAIN is MENDED (CLOTH 1 .. 9 more, 99 at most), if it has not FALLEN");
        s.due("mend(0, 0)", Check.room("ck50;p").mend(0, 0), -1);
        s.due("mend(0, 1)", Check.room("ck50;p").mend(0, 1), 51);
        s.due("mend(0, 9)", Check.room("ck50;p").mend(0, 9), 59);
        s.due("mend(0, 10)", Check.room("ck50;p").mend(0, 10), -1);
        s.due("mend(0, 9) up to 99", Check.room("ck90;p").mend(0, 9), 99);
        s.due("mend(0, 9) above 99", Check.room("ck91;p").mend(0, 9), -1);
        s.due("mend(0, 1) above 99", Check.room("ck99;p").mend(0, 1), -1);
        s.due("mend(0, 1), drawn back", Check.room("ck50o1;p").mend(0, 1), 51);
        s.due("mend(0, 9), FALLEN", Worlds.aged("sw2h1l0;ck1;p", 1).mend(0, 9), -1);
        s.due("mend(0, 9), CLOTH 1", Worlds.aged("sw2h1l0;ck2;p", 1).mend(0, 9), 10);
    }

    private void latestForty() {
        s.of(22, "All these (each YEAR) are ACTS: the latest 40 can be UNDONE one by one (LOG, too)");
        VelvetStates x = Check.room("sw3h1l0;ca0g9;ca1o1;pc1m2");
        x.pull(0, 0, true);
        x.go(0, 2);
        s.due("count(14), DRAWS and GOES", x.count(14), 2);
        x.pull(0, 0, false);
        x.go(0, 1);
        x.creep(0, 0);
        x.mend(1, 3);
        s.due("count(14), CREEPS and MENDED", x.count(14), 6);
        x.years(3);
        s.due("count(14), each YEAR", x.count(14), 9);
        x.heat(4);
        x.law(-1);
        x.faded(0, true);
        x.image();
        s.due("count(14), no others", x.count(14), 9);
        x.undo();
        x.undo();
        s.due("count(6), two YEARS UNDONE", x.count(6), 1);
        x.undo();
        x.undo();
        s.due("curtain(1, 3), not MENDED", x.curtain(1, 3), 30);
        s.due("curtain(0, 3), no YEAR", x.curtain(0, 3), 30);
        s.due("person(0, 0), crept", x.person(0, 0), 0);
        x.undo();
        s.due("person(0, 0), not crept", x.person(0, 0), 1);
        x.undo();
        s.due("person(0, 0), not gone", x.person(0, 0), 2);
        s.due("gathered(), let hang", x.gathered(), 2);
        x.undo();
        s.due("gathered(), not let hang", x.gathered(), 3);
        x.undo();
        x.undo();
        s.due("gathered(), not drawn back", x.gathered(), 2);
        VelvetStates y = Check.room("sw2h1l0m0;ck99;p");
        y.years(39);
        s.due("count(14), 39", y.count(14), 39);
        y.years(1);
        s.due("count(14), 40", y.count(14), 40);
        y.years(60);
        s.due("count(14), 100", y.count(14), 40);
        for (int left = 39; left >= 0; left--) {
            s.due("undo()", y.undo(), left);
            s.due("count(6), one by one", y.count(6), 60 + left);
        }
        s.due("undo(), no more", y.undo(), -1);
        s.due("count(6), the first sixty stay", y.count(6), 60);
        s.due("count(13), LOG, too", y.count(13), 60);
        undoneWithAll();
        VelvetStates z = Worlds.aged("sw2h1l0;ck99;p", 5);
        z.undo();
        s.due("count(13), LOG, too", z.count(13), 4);
        s.due("log(4, 0), LOG, too", z.log(4, 0), -1);
    }

    /** With ten CURTAINS and six PERSONS each one is as it was, UNDONE or by an IMAGE. */
    private void undoneWithAll() {
        VelvetStates x = Check.room("sw5h2l0m3;ca0o1k11;ca1k12;ca2k13o1;ca3k14;ca5k15;ca6k16o1;ca7k17;ca8k18;cd1k19;ca4d1k20o1"
            + ";pc4;pc5;pc6;pc7;pc8;pc9");
        x.image();
        x.centuries(30, 4);
        for (int way = 0; way < 2; way++) {
            for (int i = 0; i < 30 && way == 0; i++) {
                x.undo();
            }
            if (way == 1) {
                x.centuries(30, 5);
                x.back();
            }
            for (int c = 0; c < 10; c++) {
                s.due("curtain(" + c + ", 3), as it was", x.curtain(c, 3), 11 + c);
            }
            for (int p = 0; p < 6; p++) {
                s.due("person(" + p + ", 0), as it was", x.person(p, 0), 4 + p);
            }
            s.due("gathered(), as it was", x.gathered(), 1 + 4 + 32 + 512);
        }
    }

    private void statuses() {
        s.of(21, "how many ACTS were refused as there was no such one (0), out of bounds (1), no right, too narrow, it is so (2), "
            + "FALLEN (3), beyond the last YEAR (4); of several the first; not UNDONE");
        s.refused("mend(5, 0), no such one and out of bounds", Worlds::rich, x -> x.mend(5, 0), -1, 0);
        s.refused("mend(1, 10), out of bounds and FALLEN", Worlds::rich, x -> x.mend(1, 10), -1, 1);
        s.refused("pull(0, 1, true), no right and FALLEN", Worlds::rich, x -> x.pull(0, 1, true), -1, 2);
        s.refused("pull(1, 1, false), it is so and FALLEN", Worlds::rich, x -> x.pull(1, 1, false), -1, 2);
        s.refused("years(61), out of bounds and beyond the last", Worlds.agedOf("p;c", 999), x -> x.years(61), -1, 1);
        s.refused("years(0), no ROOM and out of bounds", Worlds::unfurnished, x -> x.years(0), -1, 0);
        VelvetStates x = Worlds.rich();
        long[] before = Looks.statuses(x);
        s.due("undo()", x.undo() >= 0, true);
        s.due("undo()", x.undo() >= 0, true);
        s.due("back()", x.back(), 2);
        long[] behind = Looks.statuses(x);
        for (int what = 0; what < 5; what++) {
            s.due("status(" + what + "), not UNDONE", behind[what], before[what]);
        }
        s.due("status(0) of " + Worlds.RICH, behind[0], 1);
        s.due("status(1)", behind[1], 1);
        s.due("status(2)", behind[2], 1);
        s.due("status(3)", behind[3], 1);
    }
}
