/** Promises 39 to 47: cross, realm, gathered, dark, borders, guests, image, back, count. */
public final class GlancePromisesTest {
    private static final Check check = new Check();

    public static void main(String[] args) {
        noRoom();
        crossing();
        realms();
        gathering();
        darkness();
        bordering();
        visiting();
        images();
        counting();
        check.end("GlancePromisesTest");
    }

    private static void noRoom() {
        VelvetStates x = new VelvetStates();
        check.due("39: no ROOM", x.cross(), -1);
        check.due("40: no ROOM", x.realm(), -1);
        check.due("41: no ROOM", x.gathered(), -1);
        check.due("42: no ROOM", x.dark(), -1);
        check.due("43: no ROOM", x.borders(0), -1);
        check.due("44: no ROOM", x.guests(), -1);
        check.due("45: no ROOM", x.image(), -1);
        check.due("46: no ROOM", x.back(), -1);
        check.due("24: no ROOM", x.join(1, 0), -1);
        check.due("25: no ROOM", x.hide(0, 0, 1), -1);
        check.due("26: no ROOM", x.seen(0, 1), -1);
        check.due("27: no ROOM", x.under(0, 0, 0), -1);
        check.due("28: no ROOM", x.lead(0), -1);
        check.due("29: no ROOM", x.first(0), -1);
        check.due("30: no ROOM", x.cloth(1), -1);
        check.due("31: no ROOM", x.game(0, 1, 0, 0, 0), -1000000);
        check.due("32: no ROOM", x.rests(0, 1, -1), -1);
        check.due("33: no ROOM", x.treaty(0, 1), -1);
        check.due("34: no ROOM", x.air(0), -1);
        check.due("35: no ROOM", x.faded(0, true), -1);
        check.due("36: no ROOM", x.leant(1, -1), -1);
        check.due("37: no ROOM", x.sure(1), -1);
        check.due("38: no ROOM", x.best(1), -1);
    }

    private static void crossing() {
        VelvetStates x = Check.room("sw3h2;ca0;ca1;ca1d1k1;p");
        check.due("39: three sides", x.cross(), 2);
        x.pull(0, 0, true);
        check.due("39: two sides", x.cross(), 0);
        x.undo();
        x.years(1);
        check.due("39: one FELL", x.cross(), 0);
        check.due("39: four sides", Check.room("sw3h3;ca3;ca4;ca1d1;ca4d1;p").cross(), 16);
        check.due("39: two of them", Check.room("sw4h2;ca0;ca1;ca2;ca1d1;ca2d1;p").cross(), 6);
    }

    private static void realms() {
        check.due("40: one", Check.room("p").realm(), 0);
        check.due("40: the largest", Check.room("sw4h1;ca0;p").realm(), 1);
        check.due("40: of several the lowest", Check.room("sw5h1;ca0;ca2;p").realm(), 1);
        check.due("40: of several the lowest", Check.room("sw4h1;ca1;p").realm(), 0);
    }

    private static void gathering() {
        VelvetStates x = Check.room("sl0;ca0o1;ca1k1;ca4d1o1;p");
        check.due("41: drawn back", x.gathered(), 5);
        x.years(1);
        check.due("41: FALLEN is not drawn back", x.gathered(), 5);
        x.pull(0, 0, false);
        check.due("41: hung", x.gathered(), 4);
    }

    private static void darkness() {
        check.due("42: no light", Check.room("sw2h1l0;p").dark(), 3);
        check.due("42: some", Check.room("sw4h1l2;p").dark(), 12);
        check.due("42: behind a CURTAIN", Check.room("sw3h1l21;ca1v9k99;p").dark(), 0);
        check.due("42: behind a CURTAIN", Check.room("sw3h1l20;ca1v9k90;p").dark(), 4);
    }

    private static void bordering() {
        VelvetStates x = Check.room(RoomPromisesTest.SIX);
        check.due("43: of 0", x.borders(0), 3);
        check.due("43: of 5", x.borders(5), 3);
        check.due("43: no such one", x.borders(6), -1);
        check.due("43: no such one", x.borders(-1), -1);
        check.due("43: within", Check.room("sw2h2;c;p").borders(0), 0);
        VelvetStates y = Check.room("sw4h1;ca0;ca1;ca2o1;p");
        check.due("43: its own alone", y.borders(0), 1);
        check.due("43: both sides", y.borders(1), 3);
        check.due("43: not those drawn back", y.borders(3), 2);
    }

    private static void visiting() {
        VelvetStates x = Check.room(RoomPromisesTest.SIX);
        check.due("44: one", x.guests(), 4);
        x.pull(0, 0, true);
        check.due("44: two", x.guests(), 5);
        check.due("44: none", Check.room("p").guests(), 0);
    }

    private static void images() {
        VelvetStates x = Check.room("sw3h1l50m0;ca0o1;ca1k20;p;pc1m4");
        Check.law(x, "y:y");
        x.years(3);
        x.faded(0, true);
        check.due("45: the YEAR", x.image(), 3);
        check.due("45: no ACT", x.count(14), 3);
        int lit = x.log(0, 1);
        x.undo();
        x.undo();
        x.law(-1);
        x.years(1);
        x.mend(1, 5);
        x.pull(1, 0, false);
        x.go(1, 1);
        x.years(7);
        x.creep(0, 0);
        x.faded(1, false);
        x.heat(9);
        int refused = x.status(2);
        check.due("46: the YEAR", x.back(), 3);
        check.due("46: none can be UNDONE", x.undo(), -1);
        check.due("46: none can be UNDONE", x.count(14), 0);
        check.due("46: CURTAINS", x.gathered(), 1);
        check.due("46: CLOTH", x.curtain(1, 3), 17);
        check.due("46: PERSONS", x.person(0, 0) * 10 + x.person(1, 0), 1);
        check.due("46: the LOG", x.count(13), 3);
        check.due("46: the LOG is the IMAGE's own", x.log(0, 1), lit);
        check.due("46: FADED stays", x.count(12), 2);
        check.due("46: HEAT stays", x.count(11), 9);
        check.due("46: the LAW stays", x.count(5), -1);
        check.due("46: STATUS stays", x.status(2), refused);
        x.years(2);
        check.due("46: once more", x.back(), 3);
        x.years(1);
        check.due("45: instead of the one ahead", x.image(), 4);
        x.years(1);
        check.due("46: the later one", x.back(), 4);
        Check.feed(x, "p");
        x.text(0);
        check.due("46: of another ROOM", x.back(), -1);
    }

    private static void counting() {
        VelvetStates x = Check.room(RoomPromisesTest.SIX);
        Check.law(x, "y:k");
        Check.law(x, "y:v");
        x.years(5);
        x.heat(3);
        x.faded(0, true);
        Check.feed(x, "abc");
        int[] due = {6, 3, 3, 2, 3, 1, 5, 1, 1, 2, 23, 3, 1, 5, 5};
        for (int what = 0; what < due.length; what++) {
            check.due("47: count(" + what + ")", x.count(what), due[what]);
        }
        check.due("47: others", x.count(15), -1000000);
        check.due("47: others", x.count(-1), -1000000);
        VelvetStates y = Check.room("sw5h4;ca0;ca5;ca10;ca15;cd1;p");
        check.due("47: STATES", y.count(7), 3);
        check.due("47: HANG", y.count(8), 31);
        check.due("47: CLOTH of all", y.count(10), 150);
    }
}
