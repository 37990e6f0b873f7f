/** Promises 6 to 13: rule, curtain, person, law, state, lord, lit, touch. */
public final class RoomPromisesTest {
    private static final Check check = new Check();

    // 0|1 2   c0 parts 0 and 1, c1 parts 0 and 3; c2, between 1 and 4, is drawn back.
    // -
    // 3 4 5
    static final String SIX = "sw3h2l40m1;ca0v5k30g2;ca0d1v2k9g4;ca1d1k3o1;pc0m2;pc2m5;pc4m5";

    public static void main(String[] args) {
        rules();
        curtains();
        persons();
        laws();
        worths();
        states();
        lights();
        touching();
        check.end("RoomPromisesTest");
    }

    private static void rules() {
        VelvetStates x = Check.room("p");
        int[] without = {4, 3, 40, 1};
        VelvetStates y = Check.room("sm7l99w2h4;p");
        int[] told = {2, 4, 99, 7};
        for (int what = 0; what < 4; what++) {
            check.due("6: rule without", x.rule(what), without[what]);
            check.due("6: rule as told", y.rule(what), told[what]);
        }
        check.due("6: no such what", x.rule(4), -1);
        check.due("6: no such what", x.rule(-1), -1);
    }

    private static void curtains() {
        VelvetStates x = Check.room(SIX);
        int[][] due = {{0, 1, 5, 30, 2, 0, 1, 8}, {0, 3, 2, 9, 4, 0, 1, 2}, {1, 4, 5, 3, 1, 1, 0, 5}};
        for (int c = 0; c < 3; c++) {
            for (int what = 0; what < 8; what++) {
                check.due("7: curtain(" + c + ", " + what + ")", x.curtain(c, what), due[c][what]);
            }
        }
        check.due("7: no such one", x.curtain(3, 0), -1);
        check.due("7: no such one", x.curtain(-1, 0), -1);
        check.due("7: no such what", x.curtain(0, 8), -1);
        check.due("7: no such what", x.curtain(0, -1), -1);
        x.years(5);
        int[] fallen = {0, 3, 2, 0, 4, 0, 0, 2};
        for (int what = 0; what < 8; what++) {
            check.due("7: FALLEN, curtain(1, " + what + ")", x.curtain(1, what), fallen[what]);
        }
        VelvetStates y = Check.room("p;cv0k9;ca1v9k99");
        check.due("7: TAKES 1 at least", y.curtain(0, 7), 1);
        check.due("7: TAKES, cut", y.curtain(1, 7), 18);
        VelvetStates z = Check.room("p;c");
        int[] without = {0, 1, 5, 30, 1, 0, 1, 8};
        for (int what = 0; what < 8; what++) {
            check.due("7: without items, curtain(0, " + what + ")", z.curtain(0, what), without[what]);
        }
    }

    private static void persons() {
        VelvetStates x = Check.room(SIX);
        int[][] due = {{0, 2, 0, 1}, {2, 5, 1, 1}, {4, 5, 1, 0}};
        for (int p = 0; p < 3; p++) {
            for (int what = 0; what < 4; what++) {
                check.due("8: person(" + p + ", " + what + ")", x.person(p, what), due[p][what]);
            }
        }
        check.throwsNoSuch(x, 3, 0);
        check.throwsNoSuch(x, -1, 0);
        check.throwsNoSuch(x, 0, 4);
        check.throwsNoSuch(x, 0, -1);
        VelvetStates y = Check.room("p");
        check.due("8: without items", y.person(0, 0), 0);
        check.due("8: without items", y.person(0, 1), 3);
    }

    private static void laws() {
        VelvetStates x = Check.room(SIX);
        check.due("9: none is there", x.law(0), false);
        check.due("9: none may hold", x.law(-1), true);
        check.due("9: no such one", x.law(-2), false);
        Check.law(x, "y:3");
        Check.law(x, "y:4");
        check.due("9: the second holds", x.curtain(0, 7), 4);
        check.due("9: the first", x.law(0), true);
        check.due("9: holds", x.curtain(0, 7), 3);
        check.due("9: it holds already", x.law(0), true);
        check.due("9: no third", x.law(2), false);
        check.due("9: refused, so as it was", x.count(5), 0);
        check.due("9: none again", x.law(-1), true);
        check.due("9: none holds", x.count(5), -1);
        check.due("9: VEIL and CLOTH", x.curtain(0, 7), 8);
    }

    private static void worth(String law, int want) {
        VelvetStates x = Check.room("sl33;p;c;ca1v7k25g4");
        x.years(2);
        Check.law(x, law);
        // CURTAIN 1: v 7, k 25 - 2 * 2 = 21, g 4, l 33, y 2, c 1.
        check.due("7: worth by " + law, x.curtain(1, 7), want);
    }

    private static void worths() {
        worth("y:v", 7);
        worth("y:k", 21);
        worth("y:g", 4);
        worth("y:l", 33);
        worth("y:y", 2);
        worth("y:c", 1);
        worth("y:c-1", 1);
        worth("y:1234", 99);
        worth("y:98", 98);
        worth("y:100", 99);
        worth("y:2+3*4", 14);
        worth("y:[2+3]*4", 20);
        worth("y:20-3-4", 13);
        worth("y:40/2/5", 4);
        worth("y:7/2*2", 6);
        worth("y:2*7/2", 7);
        worth("y:9+[0-7]/2", 6);
        worth("y:4+7/0", 4);
        worth("y:1000*1000*9/1000/500", 2);
        worth("y:[1000*1000+1000*1000]/1000/500", 2);
        worth("y:5+[0-1000*1000-1000*1000]/1000/500", 3);
        worth("y:5+[0-2000]*1000/1000/500", 3);
        worth("y:v=7?11;y:12", 11);
        worth("y:v=8?11;y:12", 12);
        worth("y:v=8?11", 1);
        worth("y:v=8?11;y:v=9?12;y:v=7?13;y:14", 13);
        worth("y:10;y:20", 10);
        worth("y:v<7?11;y:12", 12);
        worth("y:v<8?11;y:12", 11);
        worth("y:v>7?11;y:12", 12);
        worth("y:v>6?11;y:12", 11);
        worth("y:!v=7?11;y:12", 12);
        worth("y:!!v=7?11;y:12", 11);
        worth("y:v=7|v=8&v=9?11;y:12", 11);
        worth("y:(v=7|v=8)&v=9?11;y:12", 12);
        worth("y:v=8&v=7|v=7?11;y:12", 11);
        worth("y:!v=8&v=7?11;y:12", 11);
        worth("y:!(v=8|v=7)?11;y:12", 12);
        worth("y:v+1=2*4?11;y:12", 11);
        worth("y : [ v + 1 ] * 2 = 16 ? 11", 11);
        worth("y:1+[1+[1+[1+[1+[1+[1+2*3]]]]]]", 13);
        worth("y:v=8|v=7&(v=8|v=7&(v=1|v=7&(v=2|v=7&(v=3|v=7&(v=4|v=7&(v=5|v=7&1+2*3=7))))))?11;y:12", 11);
        worth("y:v=8|v=7&(v=8|v=7&(v=1|v=7&(v=2|v=7&(v=3|v=7&(v=4|v=7&(v=5|v=7&1+2*3=8))))))?11;y:12", 12);
        worth("y:" + "1+".repeat(57) + "1", 58);
        worth("y:" + "1-".repeat(118) + "1", 1);
        worth("y:v=1?1;".repeat(29) + "y:77", 77);
    }

    private static void states() {
        VelvetStates x = Check.room(SIX);
        int[] names = {0, 1, 1, 1, 1, 1};
        int[] lords = {0, 1, 1, 1, 1, 1};
        for (int s = 0; s < 6; s++) {
            check.due("10: state(" + s + ")", x.state(s), names[s]);
            check.due("11: lord(" + s + ")", x.lord(s), lords[s]);
        }
        check.due("10: no such one", x.state(6), -1);
        check.due("10: no such one", x.state(-1), -1);
        check.due("11: no such one", x.lord(6), -1);
        check.due("11: no such one", x.lord(-1), -1);
        x.years(5);
        for (int s = 0; s < 6; s++) {
            check.due("10: one STATE, as c1 FELL", x.state(s), 0);
            check.due("11: one LORD", x.lord(s), 1);
        }
        VelvetStates y = Check.room("sw3h1;ca1;pc0m4;pc1m4;pc0m5");
        check.due("11: nobody", y.lord(2), -1);
        check.due("11: the most MIGHT", y.lord(0), 2);
        check.due("10: behind the CURTAIN", y.state(2), 2);
    }

    private static void lights() {
        VelvetStates x = Check.room(SIX);
        int[] lit = {40, 35, 34, 37, 36, 35};
        for (int s = 0; s < 6; s++) {
            check.due("12: lit(" + s + ")", x.lit(s), lit[s]);
        }
        check.due("12: no such SQUARE", x.lit(6), -1);
        check.due("12: no such SQUARE", x.lit(-1), -1);
        VelvetStates y = Check.room("sw3h1l3;ca0v1k1;p");
        check.due("12: over a CURTAIN", y.lit(1), 1);
        check.due("12: 0", y.lit(2), 0);
        VelvetStates z = Check.room("sw3h1l1;ca0v1k1;p");
        check.due("12: 0 at least", z.lit(2), 0);
        // The only way winds: 0 1 2 / 5 4 3 / 6 7 8, with CURTAINS that TAKE 99.
        VelvetStates w = Check.room("sw3h3l50;ca0d1;ca1d1;ca4d1;ca5d1;p");
        Check.law(w, "y:99");
        check.due("12: the long way", w.lit(8), 42);
    }

    private static void touching() {
        VelvetStates x = Check.room(SIX);
        check.due("13: they touch", x.touch(0, 5), 1);
        check.due("13: the other way round", x.touch(5, 0), 1);
        check.due("13: the same STATE", x.touch(1, 5), 0);
        check.due("13: the same SQUARE", x.touch(0, 0), 0);
        check.due("13: no such ones", x.touch(0, 6), -1);
        check.due("13: no such ones", x.touch(-1, 0), -1);
        VelvetStates y = Check.room("sw4h1;ca0;ca1;ca2;p");
        check.due("13: one lies between", y.touch(0, 2), 0);
        check.due("13: beside", y.touch(1, 2), 1);
        check.due("13: within its own STATE", Check.room("sw2h2;c;p").touch(0, 1), 0);
    }
}
