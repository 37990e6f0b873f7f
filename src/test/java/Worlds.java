import java.util.function.Supplier;

/** Objects to try refused calls on: each has something of all that could be changed by mistake. */
final class Worlds {
    // 0|1.2 3   c0 parts 0 and 1, c1 (1 and 2) falls in the first YEAR, c2 (2 and 3) is drawn back,
    // -         c3 parts 0 and 4, c4 parts 5 and 6. So 0 is a STATE, all the others are one.
    // 4 5|6 7
    static final String RICH = "sw4h2l50m1;ca0v3k60g4;ca1k1g9;ca2o1k95g2;ca0d1k30g0;ca5k50g9;pc0m4;pc1m2;pc7m9;pc1m2";

    private Worlds() {
    }

    static VelvetStates empty() {
        return new VelvetStates();
    }

    /** No ROOM yet, but a TAPE, a LAW and a HEAT. */
    static VelvetStates unfurnished() {
        VelvetStates x = new VelvetStates();
        Check.law(x, "y:v*2");
        x.heat(3);
        Check.feed(x, "p;ca1o1");
        return x;
    }

    /** CURTAINS 0, 3, 4 HANG, 1 has FALLEN, 2 is drawn back; PERSONS at 0, 1, 7, 1; the YEAR is 5. */
    static VelvetStates rich() {
        VelvetStates x = Check.room(RICH);
        Check.feed(x, "y:v+k/10");
        x.text(1);
        Check.law(x, "y:c=0?9;y:2");
        x.heat(7);
        x.years(2);
        x.image();
        x.faded(0, true);
        x.faded(4, false);
        x.pull(1, 0, true);
        x.go(0, 5);
        x.go(0, 0);
        x.pull(1, 0, false);
        x.mend(3, 2);
        x.years(3);
        x.pull(9, 0, true);
        x.mend(0, 0);
        x.go(0, 7);
        x.mend(1, 1);
        Check.feed(x, "p;ca1o1");
        return x;
    }

    static VelvetStates on(String text) {
        VelvetStates x = Check.room(text);
        Check.feed(x, "y:v+1");
        return x;
    }

    static Supplier<VelvetStates> of(String text) {
        return () -> on(text);
    }

    /** A ROOM after so many YEARS. */
    static VelvetStates aged(String text, int years) {
        VelvetStates x = on(text);
        for (int left = years; left > 0; left -= 60) {
            x.years(Math.min(60, left));
        }
        return x;
    }

    static Supplier<VelvetStates> agedOf(String text, int years) {
        return () -> aged(text, years);
    }
}
