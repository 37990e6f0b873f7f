/** The terms, part 1: what a ROOM and a LAW are, as texts. */
final class TermsOfTexts {
    private static final String TEN = "ca0;ca1;ca2;ca4;ca5;ca6;ca8;ca9;ca10;cd1";
    private final Sentences s;

    private TermsOfTexts(Sentences s) {
        this.s = s;
    }

    static void ask(Sentences s) {
        TermsOfTexts terms = new TermsOfTexts(s);
        terms.clauses();
        terms.items();
        terms.rules();
        terms.curtains();
        terms.persons();
        terms.squares();
        terms.laws();
        terms.conditions();
        terms.truths();
        terms.nesting();
        terms.numbers();
        terms.worth();
        terms.blanks();
        terms.faultAtLength();
        terms.faultAtDigits();
        terms.faultAtLetters();
    }

    private void clauses() {
        s.of(4, "A ROOM is a TEXT: CLAUSES with ; between");
        s.fault(0, "", 0);
        s.fault(0, ";", 0);
        s.fault(0, ";p", 0);
        s.fault(0, "p;", 2);
        s.fault(0, "p;;p", 2);
        s.fault(0, "p,p", 1);
        s.of(4, "s (its RULES; one at most)");
        s.fault(0, "p", -1);
        s.fault(0, "p;s", -1);
        s.fault(0, "s;p;s", 4);
        s.of(4, "c (a CURTAIN; none to 10)");
        s.due("none", Check.room("p").count(1), 0);
        s.due("ten", Check.room(TEN + ";p").count(1), 10);
        s.fault(0, TEN + ";cd1a1;p", TEN.length() + 1);
        s.of(4, "p (a PERSON; 1 .. 6), in any order");
        s.fault(0, "c", 1);
        s.due("one", Check.room("c;p;s").count(2), 1);
        s.due("six", Check.room("p;p;s;p;c;p;p;p").count(2), 6);
        s.fault(0, "p;p;p;p;p;p;p", 12);
        VelvetStates x = Check.room("p;c;pm7;sw2h2;ca2;pm9");
        s.due("PERSONS by their order", x.person(1, 1) * 10 + x.person(2, 1), 79);
        s.due("CURTAINS by their order", x.curtain(0, 0) * 10 + x.curtain(1, 0), 2);
        String all = TEN + ";p;p;p;p;p;p;s";
        s.fault(0, all, -1);
        s.fault(0, all + ";", all.length() + 1);
        s.fault(0, all + " ; ", all.length() + 3);
        s.fault(0, all + "; p", all.length() + 2);
    }

    private void items() {
        s.of(4, "then ITEMS, none or more: a letter, each once at most in a CLAUSE, and a number (one or two digits)");
        s.fault(0, "s;c;p", -1);
        s.fault(0, "m3p", 0);
        s.fault(0, "sm3l2h1w1;ph1", 11);
        s.fault(0, "sm3l2h1w1;pm1c0", -1);
        s.fault(0, "pm1m2", 3);
        s.fault(0, "pm1;pm2", -1);
        s.fault(0, "pc1m1c1", 5);
        s.fault(0, "p1", 1);
        s.fault(0, "pm", 2);
        s.fault(0, "pmc", 2);
        s.fault(0, "pm1", -1);
        s.fault(0, "pm01", -1);
        s.fault(0, "pm001", 4);
    }

    /** An item at its bounds, beyond them (wrong at the last digit), and left away. */
    private void bounds(String head, int least, int most, int without, Looks.Ask read) {
        String rest = head.charAt(0) == 'p' ? "" : ";p";
        s.due(head + " left away", read.of(Check.room(head.charAt(0) + rest)), without);
        s.due(head + least, read.of(Check.room(head + least + rest)), least);
        s.due(head + most, read.of(Check.room(head + most + rest)), most);
        if (least > 0) {
            s.fault(0, head + (least - 1) + rest, head.length());
            s.fault(0, head + "0" + (least - 1) + rest, head.length() + 1);
        }
        String beyond = most < 99 ? Integer.toString(most + 1) : "100";
        s.fault(0, head + beyond + rest, head.length() + beyond.length() - 1);
    }

    private void rules() {
        s.of(6, "w WIDTH (1 .. 5; 4 without)");
        bounds("sw", 1, 5, 4, x -> x.rule(0));
        s.due("no s at all", Check.room("p").rule(0), 4);
        s.of(6, "h HEIGHT (1 .. 4; 3)");
        bounds("sh", 1, 4, 3, x -> x.rule(1));
        s.due("no s at all", Check.room("p").rule(1), 3);
        s.of(6, "l LIGHT of the WINDOW (0 .. 99; 40)");
        bounds("sl", 0, 99, 40, x -> x.rule(2));
        s.due("no s at all", Check.room("p").rule(2), 40);
        s.of(6, "m MOTHS (0 .. 9; 1)");
        bounds("sm", 0, 9, 1, x -> x.rule(3));
        s.due("no s at all", Check.room("p").rule(3), 1);
    }

    private void curtains() {
        s.of(7, "of c: a SQUARE (0 .. 19; 0)");
        s.due("left away", Check.room("c;p").curtain(0, 0), 0);
        s.due("0", Check.room("ca0;p").curtain(0, 0), 0);
        s.due("18", Check.room("ca18;p;sw5h4").curtain(0, 0), 18);
        // 19 is no wrong number, but nothing is on its other side: the length.
        s.fault(0, "ca19;p;sw5h4", 12);
        s.fault(0, "ca20;p;sw5h4", 3);
        s.of(7, "d (0: it parts this from the one to the right, 1: from the one below; 0)");
        bounds("cd", 0, 1, 0, x -> x.curtain(0, 1) == 1 ? 0 : 1);
        s.due("to the right", Check.room("ca5d0;p").curtain(0, 1), 6);
        s.due("below", Check.room("ca5d1;p").curtain(0, 1), 9);
        s.of(7, "v VEIL (0 .. 9; 5)");
        bounds("cv", 0, 9, 5, x -> x.curtain(0, 2));
        s.of(7, "k CLOTH (1 .. 99; 30)");
        bounds("ck", 1, 99, 30, x -> x.curtain(0, 3));
        s.of(7, "g GAP (0 .. 9; 1)");
        bounds("cg", 0, 9, 1, x -> x.curtain(0, 4));
        s.of(7, "o whether drawn back (0, 1; 0)");
        bounds("co", 0, 1, 0, x -> x.curtain(0, 5));
    }

    private void persons() {
        s.of(8, "of p: c SQUARE (0 .. 19; 0)");
        s.due("left away", Check.room("p").person(0, 0), 0);
        s.due("0", Check.room("pc0").person(0, 0), 0);
        s.due("19", Check.room("pc19;sw5h4").person(0, 0), 19);
        s.fault(0, "pc20;sw5h4", 3);
        s.of(8, "m MIGHT (1 .. 9; 3)");
        bounds("pm", 1, 9, 3, x -> x.person(0, 1));
    }

    private void squares() {
        s.of(12, "SQUARES: row by row, WIDTH to a row; the WINDOW is at SQUARE 0");
        VelvetStates x = Check.room("sw3h2l9;p");
        int[] due = {9, 8, 7, 8, 7, 6};
        for (int square = 0; square < 6; square++) {
            s.due("lit(" + square + ")", x.lit(square), due[square]);
        }
        s.due("one of one", Check.room("sw1h1;p").count(0), 1);
        s.due("twenty of five by four", Check.room("sw5h4;p").count(0), 20);
        s.due("the end of a row has nothing to its right", Check.room("sw3h2;ca2d1;ca1;p").state(3), 0);
    }

    private void laws() {
        s.of(5, "LAWS (4 at most) are TEXTS: CLAUSES with ; between, one at least: y, : , perhaps CONDITION ?, then SUM");
        VelvetStates x = new VelvetStates();
        for (int i = 0; i < 4; i++) {
            Check.feed(x, "y:" + i);
            s.due("text(1), the LAW " + i, x.text(1), i);
        }
        Check.feed(x, "y:4");
        s.due("text(1), a fifth LAW", x.text(1), -1);
        s.fault(1, "", 0);
        s.fault(1, ";", 0);
        s.fault(1, "y", 1);
        s.fault(1, "y:", 2);
        s.fault(1, "y:;", 2);
        s.fault(1, "y:1", -1);
        s.fault(1, "y:1;", 4);
        s.fault(1, "y:1;y:2", -1);
        s.fault(1, "y:1;;y:2", 4);
        s.fault(1, "k:1", 0);
        s.fault(1, "yy:1", 1);
        s.fault(1, "y:v=1?2", -1);
        s.fault(1, "y:?2", 2);
        s.fault(1, "y:1?2", 3);
        s.fault(1, "y:v=1?", 6);
        s.fault(1, "y:v=1?v=1?2", 7);
    }

    private void conditions() {
        s.of(4, "ATOM: a number (1 to 4 digits), a letter (v k g l y c), [ SUM ]");
        s.fault(1, "y:9", -1);
        s.fault(1, "y:9999", -1);
        s.fault(1, "y:10000", 6);
        s.fault(1, "y:vk", 3);
        s.fault(1, "y:v+k+g+l+y+c", -1);
        s.fault(1, "y:m", 2);
        s.fault(1, "y:[]", 3);
        s.fault(1, "y:[1", 4);
        s.fault(1, "y:1]", 3);
        s.of(4, "(A CLAUSE that goes on with ! or ( behind its : has a CONDITION.)");
        s.fault(1, "y:(1)", 4);
        s.fault(1, "y:(1=1)", 7);
        s.fault(1, "y:(1=1);", 7);
        s.fault(1, "y:(1=1)?1", -1);
        s.fault(1, "y:!1", 4);
        s.fault(1, "y:!1=1", 6);
        s.fault(1, "y:!1=1?1", -1);
        s.fault(1, "y:[1]", -1);
    }

    private void truths() {
        s.of(7, "CONDITION: TRUTHS with | between; TRUTH: UNITS with & between; UNIT: ! UNIT, ( CONDITION ), or SUM, one of = < >, SUM");
        s.due("= of less, as much, more", holds("4=5") || !holds("5=5") || holds("6=5"), false);
        s.due("< of less, as much, more", !holds("4<5") || holds("5<5") || holds("6<5"), false);
        s.due("> of less, as much, more", holds("4>5") || holds("5>5") || !holds("6>5"), false);
        String[] bits = {"1=0", "1=1"};
        for (int i = 0; i < 8; i++) {
            boolean a = (i & 4) != 0;
            boolean b = (i & 2) != 0;
            boolean c = (i & 1) != 0;
            String x = bits[i >> 2];
            String y = bits[i >> 1 & 1];
            String z = bits[i & 1];
            s.due(x + "|" + y + "&" + z, holds(x + "|" + y + "&" + z), a || b && c);
            s.due(x + "&" + y + "|" + z, holds(x + "&" + y + "|" + z), a && b || c);
            s.due("(" + x + "|" + y + ")&" + z, holds("(" + x + "|" + y + ")&" + z), (a || b) && c);
            s.due("!" + x + "&" + y, holds("!" + x + "&" + y), !a && b);
            s.due("!(" + x + "&!" + y + ")", holds("!(" + x + "&!" + y + ")"), !(a && !b));
            s.due("!!" + x, holds("!!" + x), a);
        }
        s.fault(1, "y:1=1|?2", 6);
        s.fault(1, "y:1=1&?2", 6);
        s.fault(1, "y:!?2", 3);
        s.fault(1, "y:1=?2", 4);
        s.fault(1, "y:()?2", 3);
        s.fault(1, "y:1=1=1?2", 5);
        s.fault(1, "y:1*", 4);
        s.fault(1, "y:1/;y:1", 4);
        s.of(7, "letters: v VEIL, k CLOTH, g GAP, l LIGHT of the WINDOW, y the YEAR, c its number");
        String[] letters = {"v", "k", "g", "l", "y", "c"};
        int[] due = {7, 79 - 5 * 4, 4, 67, 5, 1};
        for (int i = 0; i < letters.length; i++) {
            VelvetStates one = Worlds.aged("sw3h1l67m3;ca0v2k11g1;ca1v7k79g4;p", 5);
            one.end(0);
            Check.law(one, "y:" + letters[i]);
            s.due("curtain(1, 7) by " + letters[i], one.curtain(1, 7), due[i]);
        }
    }

    private void nesting() {
        s.of(4, "At most six of ( [ ! within one another");
        s.fault(1, "y:[[[[[[1]]]]]]", -1);
        s.fault(1, "y:[[[[[[[1]]]]]]]", 8);
        s.fault(1, "y:((((((1=1))))))?1", -1);
        s.fault(1, "y:(((((((1=1)))))))?1", 8);
        s.fault(1, "y:!!!!!!1=1?1", -1);
        s.fault(1, "y:!!!!!!!1=1?1", 8);
        s.fault(1, "y:!(!(![1]=1))?1", -1);
        s.fault(1, "y:!(!(![[1]]=1))?1", 8);
        s.fault(1, "y:!!!!!(1=1)?1", -1);
        s.fault(1, "y:!!!!!((1=1))?1", 8);
        s.fault(1, "y:1=1?[[[[[[1]]]]]]", -1);
        s.fault(1, "y:1=1?[[[[[[[1]]]]]]]", 12);
        s.fault(1, "y:1;y:[[[[[[[1]]]]]]]", 12);
        // Behind one another they may be as many as there is place for.
        s.fault(1, "y:[1]+[1]+[1]+[1]+[1]+[1]+[1]", -1);
        s.fault(1, "y:!1=1&!1=1&!1=1|!1=1&(1=1)|(1=1)&(1=1)?[1]", -1);
        s.fault(1, "y:!!!!!!1=1&[[[[[[1]]]]]]=1?[[[[[[1]]]]]];y:((((((1=1))))))?1", -1);
    }

    /** What a CURTAIN takes by a LAW that asks whether this holds. */
    private static boolean holds(String condition) {
        VelvetStates x = Check.room("c;p");
        Check.law(x, "y:" + condition + "?70;y:30");
        return x.curtain(0, 7) == 70;
    }

    private void numbers() {
        s.of(7, "Behind each sign numbers are within -1,000,000 .. 1,000,000");
        s.due("+ goes no higher", holds("1000*1000+1=1000*1000"), true);
        s.due("+ just below", holds("999*1000+999=1000*1000"), false);
        s.due("- goes no lower", holds("0-1000*1000-1=0-1000*1000"), true);
        s.due("- just above", holds("0-999*1000-999=0-1000*1000"), false);
        s.due("- of a number below 0 goes no higher", holds("1-[0-1000*1000]=1000*1000"), true);
        s.due("* goes no higher", holds("9999*9999=1000*1000"), true);
        s.due("* goes no lower", holds("[0-9999]*9999=0-1000*1000"), true);
        s.due("* just below", holds("999*1001<1000*1000"), true);
        s.due("* of the most by the most", holds("[9999*9999]*[9999*9999]=1000*1000"), true);
        s.due("* of the most by the least", holds("[9999*9999]*[0-9999*9999]=0-1000*1000"), true);
        s.due("behind each sign, not at the end", holds("1000*1000+1-1=1000*1000-1"), true);
        s.due("behind each sign, not at the end", holds("9999*9999/9999=100"), true);
        s.of(7, "/ cuts towards 0, by 0 gives 0");
        s.due("above 0", holds("7/2=3"), true);
        s.due("below 0", holds("[0-7]/2=0-3"), true);
        s.due("by a number below 0", holds("7/[0-2]=0-3"), true);
        s.due("both below 0", holds("[0-7]/[0-2]=3"), true);
        s.due("by 0", holds("7/0=0"), true);
        s.due("below 0 by 0", holds("[0-7]/[1-1]=0"), true);
        s.due("0 by 0", holds("0/0=0"), true);
        s.due("and goes on", holds("7/0+5=5"), true);
    }

    private static int taken(String law) {
        VelvetStates x = Check.room("c;p");
        Check.law(x, law);
        return x.curtain(0, 7);
    }

    private void worth() {
        s.of(7, "WORTH: the SUM of the first CLAUSE whose CONDITION holds (or has none), 0 without");
        s.due("the first of two that hold", taken("y:v=5?11;y:v=5?12;y:13"), 11);
        s.due("the second", taken("y:v=4?11;y:v=5?12;y:13"), 12);
        s.due("has none", taken("y:v=4?11;y:v=6?12;y:13"), 13);
        s.due("has none, ahead of all", taken("y:13;y:v=5?11"), 13);
        s.due("0 without, held", taken("y:v=4?11;y:v=6?12"), 1);
    }

    private void blanks() {
        s.of(4, "Blanks (32) may stand between all signs of both, not within numbers");
        s.fault(0, "  s  w 5 h 4 ;  p  c 1 9  ", 23);
        s.fault(0, "  s  w 5 h 4 ;  p  c 19  ;c", -1);
        s.fault(0, " p ", -1);
        s.fault(0, "p\t", 1);
        s.fault(0, "p\n;p", 1);
        s.fault(0, "p" + (char) 160, 1);
        s.fault(1, " y : ! ( v = [ 12 + 3 ] ) & k > 1 ? 4 ; y : 5 ", -1);
        s.fault(1, "y:1 2", 4);
        s.fault(1, "y:1\t", 3);
        s.fault(1, "y :12 34", 6);
        s.fault(0, "   ", 3);
        s.fault(1, "   ", 3);
    }

    private void faultAtLength() {
        s.of(4, "the first byte at which no such TEXT can go on (the length, if it ends too early");
        s.fault(0, "p;q;z", 2);
        s.fault(0, "pq;z", 1);
        s.fault(0, "sw", 2);
        s.fault(0, "sw ", 3);
        s.fault(0, "p;c ;", 5);
        s.fault(1, "y:1+", 4);
        s.fault(1, "y:1+ ", 5);
        s.fault(1, "y:v=", 4);
        s.fault(1, "y:(v=1", 6);
        s.fault(1, "y:1z", 3);
        s.of(4, "without a PERSON");
        s.fault(0, "s", 1);
        s.fault(0, "sw5;c ", 6);
        s.of(4, "with a PERSON or a CURTAIN at a SQUARE that is not of the ROOM");
        s.fault(0, "pc11", -1);
        s.fault(0, "pc12", 4);
        s.fault(0, "pc12 ;c", 7);
        s.fault(0, "pc12;sw5", -1);
        s.fault(0, "ca12;p", 6);
        s.fault(0, "ca11d1;p;sh4", -1);
        s.fault(0, "ca11d1;p;sw3h4", 14);
        s.fault(0, "sw1h1;pc1", 9);
        s.of(4, "a CURTAIN with no SQUARE on its other side");
        s.fault(0, "ca3;p", 5);
        s.fault(0, "ca3d1;p", -1);
        s.fault(0, "ca2;p", -1);
        s.fault(0, "ca8d1;p", 7);
        s.fault(0, "ca7d1;p", -1);
        s.fault(0, "ca11;p", 6);
        s.fault(0, "sw1h1;c;p", 9);
        s.fault(0, "sw1h2;c;p", 9);
        s.fault(0, "sw1h2;cd1;p", -1);
        s.fault(0, "sw2h1;cd1;p", 11);
        s.of(4, "two CURTAINS between the same)");
        s.fault(0, "ca1;ca1;p", 9);
        s.fault(0, "ca1v1k2g3;ca2;ca1o1;p", 21);
        s.fault(0, "ca1;ca1d1;p", -1);
        s.fault(0, "ca1d1;ca1d1;p", 13);
    }

    private void faultAtDigits() {
        s.of(4, "a number out of bounds is wrong at its last digit");
        s.fault(0, "sw6;p", 2);
        s.fault(0, "sw06;p", 3);
        s.fault(0, "sw60;p", 3);
        s.fault(0, "sw0", 2);
        s.fault(0, "ck00;p", 3);
        s.fault(0, "sw6z", 2);
        s.fault(0, "sw 6", 3);
        s.of(4, "a third digit (a fifth one in a LAW) itself, whatever stands ahead of it");
        s.fault(0, "sw123;p", 4);
        s.fault(0, "sw001;p", 4);
        s.fault(0, "sw600;p", 4);
        s.fault(0, "sl999;p", 4);
        s.fault(0, "ca2000;p", 4);
        s.fault(1, "y:12345", 6);
        s.fault(1, "y:00001", 6);
        s.fault(1, "y:v=10000?1", 8);
    }

    private void faultAtLetters() {
        s.of(4, "a letter that was there, a second s, an 11th c, a seventh p, a seventh of ( [ ! at it");
        s.fault(0, "sw1w1", 3);
        s.fault(0, "cv1k1v1;p", 5);
        s.fault(0, "pm1 m", 4);
        s.fault(0, "p;s;s", 4);
        s.fault(0, "s ; s", 4);
        s.fault(0, TEN + ";c", TEN.length() + 1);
        s.fault(0, TEN + ";p; c", TEN.length() + 4);
        s.fault(0, "p;p;p;p;p;p; p", 13);
        s.fault(1, "y:[[[[[[ [", 9);
        s.fault(1, "y:(((((( (", 9);
        s.fault(1, "y:!!!!!! !", 9);
        s.fault(1, "y:!!!!!!(", 8);
        s.fault(1, "y:((((((v=[", 10);
        s.fault(1, "y:((((((!", 8);
    }
}
