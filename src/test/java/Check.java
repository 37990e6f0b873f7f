import java.util.NoSuchElementException;

/** Counts answers that are not the ones due. */
final class Check {
    private int wrong = 0;
    private int asked = 0;

    void due(String call, long got, long want) {
        asked++;
        if (got != want) {
            wrong++;
            System.out.println(call + " answered " + got + ", due is " + want);
        }
    }

    void due(String call, boolean got, boolean want) {
        due(call, got ? 1 : 0, want ? 1 : 0);
    }

    void throwsNoSuch(VelvetStates x, int person, int what) {
        boolean thrown = false;
        try {
            x.person(person, what);
        } catch (NoSuchElementException e) {
            thrown = true;
        }
        due("person(" + person + ", " + what + ") throws", thrown, true);
    }

    void end(String name) {
        System.out.println(name + ": " + asked + " answers, " + wrong + " wrong");
        if (wrong != 0) {
            System.exit(1);
        }
    }

    static void feed(VelvetStates x, String text) {
        for (int from = 0; from < text.length(); from += 20) {
            int[] words = new int[5];
            for (int i = 0; i < 20 && from + i < text.length(); i++) {
                words[i / 4] |= (text.charAt(from + i) & 255) << 24 - 8 * (i % 4);
            }
            x.feed(words[0], words[1], words[2], words[3], words[4]);
        }
    }

    static VelvetStates room(String text) {
        VelvetStates x = new VelvetStates();
        feed(x, text);
        x.text(0);
        return x;
    }

    static void law(VelvetStates x, String text) {
        feed(x, text);
        x.law(x.text(1));
    }

    void fault(int sort, String text, int want) {
        VelvetStates x = new VelvetStates();
        feed(x, text);
        due("fault(" + sort + ") of \"" + text + "\"", x.fault(sort), want);
        due("text(" + sort + ") of \"" + text + "\" is refused", x.text(sort) == -1, want != -1);
        due("bytes left of \"" + text + "\"", x.count(4), want == -1 ? 0 : text.length());
    }
}
