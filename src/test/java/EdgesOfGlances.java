/** Promises 39 to 47: what is refused and what lies just within. */
final class EdgesOfGlances {
    private static final int MOST = Integer.MAX_VALUE;
    private static final int LEAST = Integer.MIN_VALUE;
    private final Sentences s;

    private EdgesOfGlances(Sentences s) {
        this.s = s;
    }

    static void ask(Sentences s) {
        EdgesOfGlances edges = new EdgesOfGlances(s);
        edges.glances();
        edges.borders();
        edges.images();
        edges.imagesOfAnother();
        edges.counts();
    }

    private void refusedWithoutRoom(String call, Looks.Ask ask) {
        s.refused(call + ", no ROOM", Worlds::unfurnished, ask, -1, -1);
        s.refused(call + ", a new object", Worlds::empty, ask, -1, -1);
    }

    private void glances() {
        s.of(39, "CROSS, as bits. NONE: no ROOM");
        s.due("cross(), none", Worlds.rich().cross(), 0);
        refusedWithoutRoom("cross()", x -> x.cross());
        s.of(40, "REALM. NONE: no ROOM");
        s.due("realm()", Worlds.rich().realm(), 1);
        refusedWithoutRoom("realm()", x -> x.realm());
        s.of(41, "GATHERED, as bits. NONE: no ROOM");
        s.due("gathered()", Worlds.rich().gathered(), 4);
        s.due("gathered(), no CURTAINS", Check.room("p").gathered(), 0);
        refusedWithoutRoom("gathered()", x -> x.gathered());
        s.of(42, "DARK, as bits. NONE: no ROOM");
        s.due("dark(), none", Worlds.rich().dark(), 0);
        s.due("dark(), all of twenty", Check.room("sw5h4l0;p").dark(), (1 << 20) - 1);
        refusedWithoutRoom("dark()", x -> x.dark());
        s.of(44, "GUEST, as bits. NONE: no ROOM");
        s.due("guests()", Worlds.rich().guests(), 2 + 8);
        refusedWithoutRoom("guests()", x -> x.guests());
    }

    private void borders() {
        s.of(43, "BORDERS of the STATE of a SQUARE, as bits. NONE: no such one");
        s.due("borders(0)", Worlds.rich().borders(0), 1 + 8);
        s.due("borders(7), the last", Worlds.rich().borders(7), 1 + 8);
        s.due("borders(0), no CURTAINS", Check.room("p").borders(0), 0);
        for (int square : new int[] {-1, 8, 31, 32, MOST, LEAST}) {
            s.refused("borders(" + square + ")", Worlds::rich, x -> x.borders(square), -1, -1);
        }
        refusedWithoutRoom("borders(0)", x -> x.borders(0));
    }

    private void images() {
        s.of(45, "An IMAGE (instead of the one ahead): the YEAR. NONE: no ROOM");
        VelvetStates x = Worlds.rich();
        s.due("image(), instead of that of the YEAR 2", x.image(), 5);
        x.years(7);
        s.due("back()", x.back(), 5);
        s.due("image(), YEAR 0", Check.room("p").image(), 0);
        refusedWithoutRoom("image()", y -> y.image());
        String changed = Looks.changedWithStatus(Worlds.of("p;c"), y -> y.back());
        s.due("back(), none yet, changes: " + changed, changed.isEmpty(), true);
        VelvetStates kept = Worlds.rich();
        kept.image();
        s.due("count(14), an IMAGE is no ACT", kept.count(14), 10);
        s.due("undo(), still", kept.undo(), 9);
        s.due("back(), behind what was UNDONE", kept.back(), 5);
    }

    private static VelvetStates another() {
        VelvetStates x = Worlds.rich();
        x.text(0);
        return x;
    }

    private static VelvetStates sameTextAgain() {
        VelvetStates x = Check.room("p;c");
        x.image();
        Check.feed(x, "p;c");
        x.text(0);
        return x;
    }

    private void imagesOfAnother() {
        s.of(46, "BACK: the YEAR. NONE: no IMAGE of this ROOM");
        VelvetStates x = Worlds.rich();
        s.due("back()", x.back(), 2);
        s.due("back(), once more", x.back(), 2);
        s.refused("back(), none yet", Worlds.of("p;c"), y -> y.back(), -1, -1);
        s.refused("back(), one of another ROOM", EdgesOfGlances::another, y -> y.back(), -1, -1);
        s.refused("back(), one of another ROOM with the same text", EdgesOfGlances::sameTextAgain, y -> y.back(), -1, -1);
        refusedWithoutRoom("back()", y -> y.back());
        VelvetStates wrong = Worlds.rich();
        wrong.end(0);
        Check.feed(wrong, "pz");
        wrong.text(0);
        s.due("back(), the other text was refused", wrong.back(), 2);
    }

    private void counts() {
        s.of(47, "5 the LAW that holds (NONE)");
        s.due("count(5), none", new VelvetStates().count(5), -1);
        s.due("count(5), a LAW that does not hold", Check.room("p").count(5), -1);
        s.due("count(5)", Worlds.rich().count(5), 1);
        s.of(47, "8 CURTAINS that HANG (bits), 9 FALLEN (bits), 10 CLOTH of all, 11 HEAT, 12 FADED, 13 how long the LOG is, 14 ACTS that can be UNDONE");
        VelvetStates x = Worlds.rich();
        int[] due = {8, 5, 4, 2, 7, 1, 5, 2, 1 + 8 + 16, 2, 50 + 95 + 22 + 40, 7, 2, 5, 10};
        for (int what = 0; what < due.length; what++) {
            s.due("count(" + what + ")", x.count(what), due[what]);
        }
        s.due("count(10), no CURTAINS", Check.room("p").count(10), 0);
        s.due("count(7), all alone", Check.room("sw2h2;c;cd1;ca1d1;ca2;p").count(7), 4);
        s.of(47, "HIDDEN for others");
        for (int what : new int[] {-1, 15, 16, MOST, LEAST}) {
            s.refused("count(" + what + ")", Worlds::rich, y -> y.count(what), -1000000, -1);
            s.refused("count(" + what + "), no ROOM", Worlds::unfurnished, y -> y.count(what), -1000000, -1);
        }
    }
}
