/** Promises 14 to 23: what is refused and what lies just within. */
final class EdgesOfActs {
    private static final int MOST = Integer.MAX_VALUE;
    private static final int LEAST = Integer.MIN_VALUE;
    private final Sentences s;

    private EdgesOfActs(Sentences s) {
        this.s = s;
    }

    static void ask(Sentences s) {
        EdgesOfActs edges = new EdgesOfActs(s);
        edges.pulling();
        edges.going();
        edges.creeping();
        edges.mending();
        edges.yearsGoing();
        edges.heating();
        edges.centuries();
        edges.statuses();
        edges.undoing();
        edges.logging();
    }

    private void pulling() {
        s.of(14, "A PERSON DRAWS (back: true): how many STATES there are then");
        s.due("pull(1, 0, true)", Worlds.rich().pull(1, 0, true), 1);
        s.due("pull(2, 4, true), within one STATE", Worlds.rich().pull(2, 4, true), 2);
        s.due("pull(3, 2, false)", Worlds.rich().pull(3, 2, false), 2);
        s.of(14, "NONE: no such ones (STATUS 0)");
        s.refused("pull(4, 0, true)", Worlds::rich, x -> x.pull(4, 0, true), -1, 0);
        s.refused("pull(-1, 0, true)", Worlds::rich, x -> x.pull(-1, 0, true), -1, 0);
        s.refused("pull(0, 5, true)", Worlds::rich, x -> x.pull(0, 5, true), -1, 0);
        s.refused("pull(0, -1, false)", Worlds::rich, x -> x.pull(0, -1, false), -1, 0);
        s.refused("pull(4, 5, true), once", Worlds::rich, x -> x.pull(4, 5, true), -1, 0);
        s.refused("pull(most, least, true)", Worlds::rich, x -> x.pull(MOST, LEAST, true), -1, 0);
        s.refused("pull(0, 32, true)", Worlds::rich, x -> x.pull(0, 32, true), -1, 0);
        s.refused("pull(0, 0, true), no CURTAINS", Worlds.of("p"), x -> x.pull(0, 0, true), -1, 0);
        s.refused("pull(0, 0, true), no ROOM", Worlds::unfurnished, x -> x.pull(0, 0, true), -1, 0);
        s.of(14, "no right");
        s.refused("pull(0, 4, true)", Worlds::rich, x -> x.pull(0, 4, true), -1, 2);
        s.refused("pull(0, 2, false)", Worlds::rich, x -> x.pull(0, 2, false), -1, 2);
        s.of(14, "it is so (2)");
        s.refused("pull(1, 0, false)", Worlds::rich, x -> x.pull(1, 0, false), -1, 2);
        s.refused("pull(0, 3, false)", Worlds::rich, x -> x.pull(0, 3, false), -1, 2);
        s.refused("pull(1, 2, true)", Worlds::rich, x -> x.pull(1, 2, true), -1, 2);
        s.of(14, "FALLEN (3)");
        s.refused("pull(1, 1, true)", Worlds::rich, x -> x.pull(1, 1, true), -1, 3);
        s.refused("pull(0, 0, true)", Worlds.agedOf("sw2h1l0;ck1;p", 1), x -> x.pull(0, 0, true), -1, 3);
    }

    private void going() {
        s.of(15, "A PERSON GOES: the NAME of the STATE");
        VelvetStates x = Worlds.rich();
        s.due("go(2, 1), where others are", x.go(2, 1), 1);
        s.due("go(2, 7), the last", x.go(2, 7), 1);
        s.of(15, "NONE: no such ones (STATUS 0)");
        s.refused("go(4, 1)", Worlds::rich, y -> y.go(4, 1), -1, 0);
        s.refused("go(-1, 1)", Worlds::rich, y -> y.go(-1, 1), -1, 0);
        s.refused("go(2, 8)", Worlds::rich, y -> y.go(2, 8), -1, 0);
        s.refused("go(2, -1)", Worlds::rich, y -> y.go(2, -1), -1, 0);
        s.refused("go(2, 33)", Worlds::rich, y -> y.go(2, 33), -1, 0);
        s.refused("go(least, most)", Worlds::rich, y -> y.go(LEAST, MOST), -1, 0);
        s.refused("go(0, 0), no ROOM", Worlds::unfurnished, y -> y.go(0, 0), -1, 0);
        s.of(15, "not in its STATE");
        s.refused("go(0, 1)", Worlds::rich, y -> y.go(0, 1), -1, 2);
        s.refused("go(0, 4)", Worlds::rich, y -> y.go(0, 4), -1, 2);
        s.refused("go(2, 0)", Worlds::rich, y -> y.go(2, 0), -1, 2);
        s.of(15, "it is there (2)");
        s.refused("go(2, 7)", Worlds::rich, y -> y.go(2, 7), -1, 2);
        s.refused("go(0, 0)", Worlds::rich, y -> y.go(0, 0), -1, 2);
    }

    private void creeping() {
        s.of(16, "A PERSON CREEPS under: the SQUARE then");
        VelvetStates x = Worlds.rich();
        s.due("creep(0, 0), as wide as mighty", x.creep(0, 0), 1);
        s.due("creep(0, 0), back", x.creep(0, 0), 0);
        s.due("creep(1, 0)", x.creep(1, 0), 0);
        s.of(16, "NONE: no such ones (STATUS 0)");
        s.refused("creep(4, 0)", Worlds::rich, y -> y.creep(4, 0), -1, 0);
        s.refused("creep(-1, 0)", Worlds::rich, y -> y.creep(-1, 0), -1, 0);
        s.refused("creep(0, 5)", Worlds::rich, y -> y.creep(0, 5), -1, 0);
        s.refused("creep(0, -1)", Worlds::rich, y -> y.creep(0, -1), -1, 0);
        s.refused("creep(0, 32)", Worlds::rich, y -> y.creep(0, 32), -1, 0);
        s.refused("creep(most, most)", Worlds::rich, y -> y.creep(MOST, MOST), -1, 0);
        s.refused("creep(0, 0), no ROOM", Worlds::unfurnished, y -> y.creep(0, 0), -1, 0);
        s.of(16, "it does not HANG beside its SQUARE");
        s.refused("creep(1, 4), it hangs elsewhere", Worlds::rich, y -> y.creep(1, 4), -1, 2);
        s.refused("creep(1, 1), FALLEN", Worlds::rich, y -> y.creep(1, 1), -1, 2);
        s.refused("creep(0, 0), drawn back", Worlds.of("sw2h1;cg9o1;pm1"), y -> y.creep(0, 0), -1, 2);
        s.of(16, "too narrow (2)");
        s.refused("creep(0, 3), 0 for 4", Worlds::rich, y -> y.creep(0, 3), -1, 2);
        s.refused("creep(0, 0), 8 for 9", Worlds.of("sw2h1;cg8;pm9"), y -> y.creep(0, 0), -1, 2);
    }

    private void mending() {
        s.of(17, "MENDED: CLOTH then");
        s.due("mend(0, 1)", Worlds.rich().mend(0, 1), 51);
        s.due("mend(0, 9)", Worlds.rich().mend(0, 9), 59);
        s.due("mend(2, 4), up to 99", Worlds.rich().mend(2, 4), 99);
        s.of(17, "NONE: no such one (STATUS 0)");
        s.refused("mend(5, 1)", Worlds::rich, x -> x.mend(5, 1), -1, 0);
        s.refused("mend(-1, 1)", Worlds::rich, x -> x.mend(-1, 1), -1, 0);
        s.refused("mend(least, 1)", Worlds::rich, x -> x.mend(LEAST, 1), -1, 0);
        s.refused("mend(0, 1), no CURTAINS", Worlds.of("p"), x -> x.mend(0, 1), -1, 0);
        s.refused("mend(0, 1), no ROOM", Worlds::unfurnished, x -> x.mend(0, 1), -1, 0);
        s.of(17, "out of bounds");
        s.refused("mend(0, 0)", Worlds::rich, x -> x.mend(0, 0), -1, 1);
        s.refused("mend(0, 10)", Worlds::rich, x -> x.mend(0, 10), -1, 1);
        s.refused("mend(0, -1)", Worlds::rich, x -> x.mend(0, -1), -1, 1);
        s.refused("mend(0, most)", Worlds::rich, x -> x.mend(0, MOST), -1, 1);
        s.refused("mend(0, least)", Worlds::rich, x -> x.mend(0, LEAST), -1, 1);
        s.of(17, "above 99 (1)");
        s.refused("mend(2, 5), 100", Worlds::rich, x -> x.mend(2, 5), -1, 1);
        s.refused("mend(2, 9), 104", Worlds::rich, x -> x.mend(2, 9), -1, 1);
        s.of(17, "FALLEN (3)");
        s.refused("mend(1, 1)", Worlds::rich, x -> x.mend(1, 1), -1, 3);
        s.refused("mend(1, 9)", Worlds::rich, x -> x.mend(1, 9), -1, 3);
    }

    private void yearsGoing() {
        s.of(18, "YEARS (1 .. 60): the YEAR");
        s.due("years(1)", Worlds.rich().years(1), 6);
        s.due("years(60)", Worlds.rich().years(60), 65);
        s.of(18, "NONE: no ROOM (STATUS 0)");
        s.refused("years(1)", Worlds::unfurnished, x -> x.years(1), -1, 0);
        s.of(18, "out of bounds (1)");
        s.refused("years(0)", Worlds::rich, x -> x.years(0), -1, 1);
        s.refused("years(61)", Worlds::rich, x -> x.years(61), -1, 1);
        s.refused("years(-1)", Worlds::rich, x -> x.years(-1), -1, 1);
        s.refused("years(most)", Worlds::rich, x -> x.years(MOST), -1, 1);
        s.refused("years(least)", Worlds::rich, x -> x.years(LEAST), -1, 1);
        s.of(18, "beyond 999 (4)");
        String row = "sw3h1l0m0;ca0;ca1o1;p";
        s.due("years(60), just 999", Worlds.aged(row, 939).years(60), 999);
        s.refused("years(60), 1000", Worlds.agedOf(row, 940), x -> x.years(60), -1, 4);
        s.refused("years(2), 1000", Worlds.agedOf(row, 998), x -> x.years(2), -1, 4);
        s.refused("years(1), 1000", Worlds.agedOf(row, 999), x -> x.years(1), -1, 4);
        s.refused("years(60), 1059", Worlds.agedOf(row, 999), x -> x.years(60), -1, 4);
    }

    private void heating() {
        s.of(19, "HEAT. False: out of bounds");
        VelvetStates x = Worlds.rich();
        s.due("heat(0)", x.heat(0), true);
        s.due("count(11)", x.count(11), 0);
        s.due("heat(99)", x.heat(99), true);
        s.due("count(11)", x.count(11), 99);
        s.due("heat(1), no ROOM", new VelvetStates().heat(1), true);
        s.refused("heat(-1)", Worlds::rich, y -> y.heat(-1) ? 1 : 0, 0, -1);
        s.refused("heat(100)", Worlds::rich, y -> y.heat(100) ? 1 : 0, 0, -1);
        s.refused("heat(most)", Worlds::rich, y -> y.heat(MOST) ? 1 : 0, 0, -1);
        s.refused("heat(least)", Worlds::unfurnished, y -> y.heat(LEAST) ? 1 : 0, 0, -1);
        s.of(19, "it is so");
        s.refused("heat(7)", Worlds::rich, y -> y.heat(7) ? 1 : 0, 0, -1);
        s.refused("heat(0)", Worlds::empty, y -> y.heat(0) ? 1 : 0, 0, -1);
    }

    private void centuries() {
        s.of(20, "CENTURIES: the YEAR. NONE: no ROOM");
        s.due("centuries(1, 7)", Worlds.rich().centuries(1, 7), 6);
        s.due("centuries(60, 7)", Worlds.rich().centuries(60, 7), 65);
        s.refused("centuries(1, 7)", Worlds::unfurnished, x -> x.centuries(1, 7), -1, -1);
        s.of(20, "out of bounds");
        s.refused("centuries(0, 7)", Worlds::rich, x -> x.centuries(0, 7), -1, -1);
        s.refused("centuries(61, 7)", Worlds::rich, x -> x.centuries(61, 7), -1, -1);
        s.refused("centuries(-1, 7)", Worlds::rich, x -> x.centuries(-1, 7), -1, -1);
        s.refused("centuries(most, 7)", Worlds::rich, x -> x.centuries(MOST, 7), -1, -1);
        s.refused("centuries(least, 7)", Worlds::rich, x -> x.centuries(LEAST, 7), -1, -1);
        s.of(20, "beyond 999");
        String row = "sw3h1l0m0;ca0;ca1o1;p";
        s.due("centuries(60, 7), just 999", Worlds.aged(row, 939).centuries(60, 7), 999);
        s.refused("centuries(60, 7), 1000", Worlds.agedOf(row, 940), x -> x.centuries(60, 7), -1, -1);
        s.refused("centuries(1, 7), 1000", Worlds.agedOf(row, 999), x -> x.centuries(1, 7), -1, -1);
    }

    private void statuses() {
        s.of(21, "STATUS. NONE: no such what");
        VelvetStates x = Worlds.rich();
        int[] due = {-1, 1, 1, 1, 1, 0, -1};
        for (int what = -1; what <= 5; what++) {
            s.due("status(" + what + ")", x.status(what), due[what + 1]);
        }
        s.refused("status(5)", Worlds::rich, y -> y.status(5), -1, -1);
        s.refused("status(-1)", Worlds::rich, y -> y.status(-1), -1, -1);
        s.refused("status(most)", Worlds::rich, y -> y.status(MOST), -1, -1);
        s.refused("status(least)", Worlds::empty, y -> y.status(LEAST), -1, -1);
    }

    private static VelvetStates afterBack() {
        VelvetStates x = Worlds.rich();
        x.back();
        return x;
    }

    private static VelvetStates allUndone() {
        VelvetStates x = Worlds.rich();
        for (int i = 0; i < 10; i++) {
            x.undo();
        }
        return x;
    }

    private void undoing() {
        s.of(22, "The latest ACT is UNDONE: how many still can be. NONE: none");
        VelvetStates x = Worlds.rich();
        s.due("count(14)", x.count(14), 10);
        for (int left = 9; left >= 0; left--) {
            s.due("undo()", x.undo(), left);
            s.due("count(14)", x.count(14), left);
        }
        s.due("count(6), as at first", x.count(6), 0);
        s.due("count(10), as at first", x.count(10), 60 + 1 + 95 + 30 + 50);
        s.refused("undo(), all UNDONE", EdgesOfActs::allUndone, y -> y.undo(), -1, -1);
        s.refused("undo(), behind BACK", EdgesOfActs::afterBack, y -> y.undo(), -1, -1);
        s.refused("undo(), a new ROOM", Worlds.of("p;c"), y -> y.undo(), -1, -1);
        s.refused("undo(), no ROOM", Worlds::unfurnished, y -> y.undo(), -1, -1);
        VelvetStates after = allUndone();
        after.go(1, 5);
        s.due("undo(), an ACT behind those", after.undo(), 0);
        s.due("person(1, 0)", after.person(1, 0), 1);
    }

    private void logging() {
        s.of(23, "LOG, the latest (i 0), the one ahead of it (1) ..: 0 STATES, 1 LIT, 2 FELL. NONE: no such ones");
        VelvetStates x = Worlds.rich();
        s.due("count(13)", x.count(13), 5);
        s.due("log(4, 2), c1 FELL in the first YEAR", x.log(4, 2), 2);
        s.due("log(3, 2)", x.log(3, 2), 0);
        s.due("log(0, 0)", x.log(0, 0), 2);
        s.due("log(4, 0)", x.log(4, 0), 2);
        s.refused("log(5, 0)", Worlds::rich, y -> y.log(5, 0), -1, -1);
        s.refused("log(-1, 0)", Worlds::rich, y -> y.log(-1, 0), -1, -1);
        s.refused("log(0, 3)", Worlds::rich, y -> y.log(0, 3), -1, -1);
        s.refused("log(0, -1)", Worlds::rich, y -> y.log(0, -1), -1, -1);
        s.refused("log(most, 0)", Worlds::rich, y -> y.log(MOST, 0), -1, -1);
        s.refused("log(least, 0)", Worlds::rich, y -> y.log(LEAST, 0), -1, -1);
        s.refused("log(60, 0), of sixty", Worlds.agedOf("p;c", 99), y -> y.log(60, 0), -1, -1);
        s.refused("log(0, 0), no YEAR", Worlds.of("p;c"), y -> y.log(0, 0), -1, -1);
        s.refused("log(0, 0), no ROOM", Worlds::unfurnished, y -> y.log(0, 0), -1, -1);
        s.refused("log(0, 0), all UNDONE", EdgesOfActs::allUndone, y -> y.log(0, 0), -1, -1);
    }
}
