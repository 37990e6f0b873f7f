/** Promises 1 to 5: a new object, feed, end, fault, text. */
public final class TextPromisesTest {
    private static final Check check = new Check();

    public static void main(String[] args) {
        newObject();
        feeding();
        ending();
        roomFaults();
        roomBounds();
        lawFaults();
        nesting();
        becomingRoom();
        becomingLaw();
        check.end("TextPromisesTest");
    }

    private static void newObject() {
        VelvetStates x = new VelvetStates();
        int[] due = {0, 0, 0, 0, 0, -1, 0, 0, 0, 0, 0, 0, 0, 0, 0};
        for (int what = 0; what < due.length; what++) {
            check.due("1: new, count(" + what + ")", x.count(what), due[what]);
        }
        check.due("1: no ROOM, rule", x.rule(0), -1);
        check.due("1: no ROOM, curtain", x.curtain(0, 0), -1);
        check.due("1: no ROOM, state", x.state(0), -1);
        check.due("1: no ROOM, undo", x.undo(), -1);
        check.due("1: no ROOM, back", x.back(), -1);
        check.throwsNoSuch(x, 0, 0);
        for (int what = 0; what < 5; what++) {
            check.due("1: new, status", x.status(what), 0);
        }
        check.due("1: NONE", VelvetStates.NONE, -1);
        check.due("1: HIDDEN", VelvetStates.HIDDEN, -1000000);
    }

    private static void feeding() {
        VelvetStates x = new VelvetStates();
        check.due("2: zeros are left out", x.feed(0, 0x00700000, 0, 0x3B00, 's'), 3);
        check.due("2: in their order (p;s)", x.fault(0), -1);
        check.due("2: twenty", x.feed(0x20202020, 0x20202020, 0x20202020, 0x20202020, 0x20202020), 23);
        check.due("2: none more", x.feed(0, 0, 0, 0, 0), 23);
        for (int i = 0; i < 10; i++) {
            x.feed(0x20202020, 0x20202020, 0x20202020, 0x20202020, 0x20202020);
        }
        check.due("2: 223", x.count(4), 223);
        check.due("2: beyond 240", x.feed(0x20202020, 0x20202020, 0x20202020, 0x20202020, 0x20200000), -1);
        check.due("2: refused, so as it was", x.count(4), 223);
        check.due("2: just 240", x.feed(0x20202020, 0x20202020, 0x20202020, 0x20202020, 0x20000000), 240);
        check.due("2: 241", x.feed(0, 0, 0, 0, 1), -1);
        check.due("2: full, none more", x.feed(0, 0, 0, 0, 0), 240);
        check.due("2: blanks to 240", x.fault(0), -1);
        VelvetStates y = new VelvetStates();
        check.due("2: bytes above 127", y.feed(0xFFFFFFFF, 0x80FF0000, 0, 0, 0), 6);
        check.due("2: the highest first", y.end(0) && y.feed(0x703B7300, 0, 0, 0, 0) == 3 && y.fault(0) == -1, true);
    }

    private static void ending() {
        VelvetStates x = new VelvetStates();
        Check.feed(x, "p;c;x");
        check.due("3: negative", x.end(-1), false);
        check.due("3: beyond", x.end(6), false);
        check.due("3: refused, so as it was", x.count(4), 5);
        check.due("3: all of it", x.end(5), true);
        check.due("3: still wrong", x.fault(0), 4);
        check.due("3: the first three", x.end(3), true);
        check.due("3: three", x.count(4), 3);
        check.due("3: now right", x.fault(0), -1);
        check.due("3: what is cut off is gone", x.end(5), false);
        check.due("3: to nothing", x.end(0), true);
        check.due("3: nothing", x.count(4), 0);
    }

    private static void roomFaults() {
        check.fault(0, "p", -1);
        check.fault(0, " ", 1);
        check.fault(0, "P", 0);
        check.fault(0, "p;", 2);
        check.fault(0, "p; ", 3);
        check.fault(0, "p;;", 2);
        check.fault(0, ";p", 0);
        check.fault(0, "s;c", 3);
        check.fault(0, "s;p;s", 4);
        check.fault(0, "pcc", 2);
        check.fault(0, "pc", 2);
        check.fault(0, "pc ", 3);
        check.fault(0, "pc;", 2);
        check.fault(0, "pc1c2", 3);
        check.fault(0, "pc1 2", 4);
        check.fault(0, "p c 1 m 2 ", -1);
        check.fault(0, " s w 4 ; p ", -1);
        check.fault(0, "p1", 1);
        check.fault(0, "pa1", 1);
        check.fault(0, "ps", 1);
        check.fault(0, "sc1;p", 1);
        check.fault(0, "sw04h03;pc01", -1);
        check.fault(0, "sw123;p", 4);
        check.fault(0, "sw991;p", 4);
        check.fault(0, "sw001;p", 4);
        check.fault(0, "sw6;x", 2);
        check.fault(0, "sw6x", 2);
        check.fault(0, "sw60", 3);
        check.fault(0, "p" + (char) 233, 1);
        check.fault(0, "p\t", 1);
        check.fault(0, "ca12;p", 6);
        check.fault(0, "p;ca12x", 6);
        check.fault(0, "p;ca0d0;ca0d1;ca1", -1);
        check.fault(0, "p;ca5d1;ca5d1k2", 15);
        check.fault(0, "p;ca8d1", 7);
        check.fault(0, "p;ca7d1", -1);
        check.fault(0, "sw1h1;p", -1);
        check.fault(0, "sw1h1;p;c", 9);
        check.fault(0, "sw1;p;cd1", -1);
        check.fault(0, "pc12", 4);
        check.fault(0, "pc12;sw5", -1);
        check.fault(0, "pc19;sw5h4", -1);
        check.fault(0, "pc15;sw5", 8);
        check.fault(0, "p;p;p;p;p;p", -1);
        check.fault(0, "p;p;p;p;p;p;p", 12);
        String ten = "ca0;ca1;ca2;ca4;ca5;ca6;ca8;ca9;ca10;cd1;";
        check.fault(0, ten + "p", -1);
        check.fault(0, ten + "c", ten.length());
        String all = ten + "p;p;p;p;p;p;s";
        check.fault(0, all, -1);
        check.fault(0, all + " ; ", all.length() + 3);
        check.fault(0, all + " ; c", all.length() + 3);
    }

    private static void roomBounds() {
        String[] items = {"sw", "sh", "sl", "sm", "ca", "cd", "cv", "ck", "cg", "co", "pc", "pm"};
        int[] least = {1, 1, 0, 0, 0, 0, 0, 1, 0, 0, 0, 1};
        int[] most = {5, 4, 99, 9, 19, 1, 9, 99, 9, 1, 19, 9};
        for (int i = 0; i < items.length; i++) {
            for (int value = 0; value < 100; value++) {
                VelvetStates x = new VelvetStates();
                // A letter that is none of any clause: the fault there shows that the number was well.
                String text = items[i] + value;
                Check.feed(x, text + "z");
                boolean well = value >= least[i] && value <= most[i];
                check.due("4: bounds of " + text, x.fault(0), well ? text.length() : text.length() - 1);
            }
        }
    }

    private static void lawFaults() {
        check.fault(1, "", 0);
        check.fault(1, "y", 1);
        check.fault(1, "y:", 2);
        check.fault(1, "v:1", 0);
        check.fault(1, "y1", 1);
        check.fault(1, "y:1", -1);
        check.fault(1, " y : 1 ", -1);
        check.fault(1, "y:1;", 4);
        check.fault(1, "y:1;y:2", -1);
        check.fault(1, "y:1;;", 4);
        check.fault(1, "y:1234", -1);
        check.fault(1, "y:12345", 6);
        check.fault(1, "y:00000", 6);
        check.fault(1, "y:1 2", 4);
        check.fault(1, "y:v+k-g*l/y+c", -1);
        check.fault(1, "y:a", 2);
        check.fault(1, "y:-1", 2);
        check.fault(1, "y:1+", 4);
        check.fault(1, "y:1+*2", 4);
        check.fault(1, "y:1?2", 3);
        check.fault(1, "y:v=1", 5);
        check.fault(1, "y:v=1;", 5);
        check.fault(1, "y:v=1?", 6);
        check.fault(1, "y:v=1?2", -1);
        check.fault(1, "y:v=1?2=3", 7);
        check.fault(1, "y:v=1?k=1?2", 7);
        check.fault(1, "y:v=1=2?3", 5);
        check.fault(1, "y:v=1&k>2|g<3?4", -1);
        check.fault(1, "y:v=1&k?4", 7);
        check.fault(1, "y:v&k=1?4", 3);
        check.fault(1, "y:!v=1?2", -1);
        check.fault(1, "y:!v", 4);
        check.fault(1, "y:!v;", 4);
        check.fault(1, "y:!v=1;", 6);
        check.fault(1, "y:(v=1)?2", -1);
        check.fault(1, "y:(v=1)", 7);
        check.fault(1, "y:(v=1)+1", 7);
        check.fault(1, "y:(v)?2", 4);
        check.fault(1, "y:(v=1?2", 6);
        check.fault(1, "y:(v=1]", 6);
        check.fault(1, "y:[v+1]*2", -1);
        check.fault(1, "y:[v=1]", 4);
        check.fault(1, "y:[v", 4);
        check.fault(1, "y:[(v=1)]", 3);
        check.fault(1, "y:[]", 3);
        check.fault(1, "y:1)", 3);
        check.fault(1, "y:v=(1)?2", 4);
        check.fault(1, "y:v=!1?2", 4);
        check.fault(1, "y:!!(v=1)&!(!k=2|g>1)?2", -1);
        check.fault(1, "y:" + (char) 200, 2);
        VelvetStates x = new VelvetStates();
        Check.feed(x, "p");
        check.due("4: no such sort", x.fault(2), -2);
        check.due("4: no such sort", x.fault(-1), -2);
        check.due("4: asked, so as it was", x.count(4), 1);
    }

    private static void nesting() {
        check.fault(1, "y:[[[[[[1]]]]]]", -1);
        check.fault(1, "y:[[[[[[[1]]]]]]]", 8);
        check.fault(1, "y:!!!!!!v=1?2", -1);
        check.fault(1, "y:!!!!!!!v=1?2", 8);
        check.fault(1, "y:((((((v=1))))))?2", -1);
        check.fault(1, "y:(((((((v=1)))))))?2", 8);
        check.fault(1, "y:!(!([[v]]=1))?2", -1);
        check.fault(1, "y:!(!([[[v]]]=1))?2", 8);
        check.fault(1, "y:!!!!!!v=[1]?2", 10);
        check.fault(1, "y:!!!!!!v=1&!!!!!!k=1?[[[[[[2]]]]]]", -1);
        check.fault(1, "y:(((v=1)))&[[[[[[v]]]]]]=1?2", -1);
        check.fault(1, "y:" + "1+".repeat(118) + "12", -1);
        check.fault(1, "y:" + "1+".repeat(119), 240);
        check.fault(1, "y:1;".repeat(59) + "y:12", -1);
        check.fault(1, "y:1;".repeat(60), 240);
    }

    private static void becomingRoom() {
        VelvetStates x = new VelvetStates();
        check.due("5: nothing on the tape", x.text(0), -1);
        Check.feed(x, "sw5h4;p");
        check.due("5: no such sort", x.text(2), -1);
        check.due("5: no such sort", x.text(-1), -1);
        check.due("5: a ROOM is no LAW", x.text(1), -1);
        check.due("5: refused, so as it was", x.count(4), 7);
        check.due("5: SQUARES", x.text(0), 20);
        check.due("5: the TAPE is empty", x.count(4), 0);
        Check.law(x, "y:7");
        x.heat(5);
        x.years(0);
        x.years(3);
        x.image();
        Check.feed(x, "p;ca9");
        check.due("5: another ROOM", x.text(0), 12);
        x.faded(0, true);
        x.image();
        x.years(2);
        Check.feed(x, "p;c;p;p");
        check.due("5: a third ROOM", x.text(0), 12);
        int[] due = {12, 1, 3, 1, 0, 0, 0, 1, 1, 0, 30, 5, 0, 0, 0};
        for (int what = 0; what < due.length; what++) {
            check.due("5: a third ROOM, count(" + what + ")", x.count(what), due[what]);
        }
        check.due("5: STATUS stays", x.status(1), 1);
        check.due("5: the IMAGE is gone", x.back(), -1);
        check.due("5: the LAW still holds", x.curtain(0, 7), 7);
        check.due("5: nobody is FADED", x.leant(1, -1), 3);
        Check.feed(x, "pz");
        check.due("5: a FAULT", x.text(0), -1);
        check.due("5: the ROOM is still there", x.count(2), 3);
    }

    private static void becomingLaw() {
        VelvetStates x = new VelvetStates();
        for (int i = 0; i < 4; i++) {
            Check.feed(x, "y:" + i);
            check.due("5: LAW " + i, x.text(1), i);
        }
        check.due("5: none holds yet", x.count(5), -1);
        Check.feed(x, "y:9");
        check.due("5: there are four", x.text(1), -1);
        check.due("5: refused, so as it was", x.count(4), 3);
        check.due("5: four", x.count(3), 4);
        check.due("5: but it has no FAULT", x.fault(1), -1);
    }
}
