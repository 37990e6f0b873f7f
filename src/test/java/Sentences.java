import java.io.IOException;
import java.nio.file.Files;
import java.nio.file.Path;
import java.util.function.Supplier;
import java.util.regex.Matcher;
import java.util.regex.Pattern;

/**
 * Tests that each name a promise and a sentence of the document that they stand for.
 * The sentence must stand in the document word for word, and at the end no boundary case of the document
 * may be left that no sentence was named for.
 */
final class Sentences {
    private static final int PROMISES = 47;
    // Words by which the document names a boundary case.
    private static final Pattern EDGE = Pattern.compile("\\d \\.\\. \\d|at most|at least|at first|of several|or more"
        + "|no less|[Nn]othing|\\b[Nn]one\\b|NONE|HIDDEN|False|-2|NoSuchElement|\\bcut|rising|twice|\\bonce\\b|going round"
        + "|without|not UNDONE|digit|a second s|11th|seventh|the length|just one|latest|[Rr]efused|instead|empty"
        + "|\\bleft out\\b|\\(1, 0\\)|fewest|lowest|is gone|behind 999|too early|alone");
    private static final Pattern REFUSAL = Pattern.compile("NONE: |NONE \\(|False: |HIDDEN: |HIDDEN for|-2: |NoSuchElementException: ");

    private final Check check;
    private final String document;
    private final boolean[] named;
    private String label = "";
    private int since = 0;

    Sentences(Check check) throws IOException {
        this.check = check;
        document = Files.readString(Path.of("../shared/DOC.md")).replaceAll("\\s+", " ");
        named = new boolean[document.length()];
        since = 1;
    }

    private int termsFrom() {
        return document.indexOf("## Terms");
    }

    private int promiseFrom(int promise) {
        return document.indexOf("## Promise " + promise + ":");
    }

    private int promiseTo(int promise) {
        return promise < PROMISES ? promiseFrom(promise + 1) : document.indexOf("## Not promised");
    }

    /** Behind the signature: what the promise says. */
    private int saidFrom(int promise) {
        return document.indexOf("`: ", promiseFrom(promise)) + 3;
    }

    /** What is asked next stands for this sentence of this promise, or of the terms that the promise uses. */
    void of(int promise, String sentence) {
        asked();
        label = "promise " + promise + ", \"" + sentence + "\": ";
        boolean own = name(sentence, promiseFrom(promise), promiseTo(promise));
        if (!own && !name(sentence, 0, promiseFrom(1))) {
            check.due(label + "stands in the document once", false, true);
        }
    }

    private boolean name(String sentence, int from, int to) {
        int at = document.indexOf(sentence, from);
        if (at < 0 || at + sentence.length() > to) {
            return false;
        }
        int again = document.indexOf(sentence, at + 1);
        if (again >= 0 && again + sentence.length() <= to) {
            return false;
        }
        for (int i = at; i < at + sentence.length(); i++) {
            named[i] = true;
        }
        return true;
    }

    private void asked() {
        check.due(label + "something is asked", since > 0, true);
        since = 0;
    }

    void due(String call, long got, long want) {
        since++;
        check.due(label + call, got, want);
    }

    void due(String call, boolean got, boolean want) {
        due(call, got ? 1 : 0, want ? 1 : 0);
    }

    /** The call answers so, counts in this STATUS (NONE: in no one), and changes nothing else that can be looked at. */
    void refused(String call, Supplier<VelvetStates> world, Looks.Ask ask, long answer, int status) {
        VelvetStates x = world.get();
        long[] before = Looks.statuses(x);
        due(call, ask.of(x), answer);
        long[] behind = Looks.statuses(x);
        for (int what = 0; what < before.length; what++) {
            due(call + ", then STATUS " + what, behind[what], before[what] + (what == status ? 1 : 0));
        }
        String changed = Looks.changed(world, ask);
        since++;
        check.due(label + call + " changes: " + changed, changed.isEmpty(), true);
    }

    /** Each FAULT, and that the text is taken just if there is none. */
    void fault(int sort, String text, int want) {
        VelvetStates x = new VelvetStates();
        Check.feed(x, text);
        due("fault(" + sort + ") of '" + text + "'", x.fault(sort), want);
        due("text(" + sort + ") of '" + text + "' is refused", x.text(sort) == -1, want != -1);
        due("bytes left of '" + text + "'", x.count(4), want == -1 ? 0 : text.length());
    }

    void end() {
        asked();
        edgesAreNamed(termsFrom(), promiseFrom(1), "the terms");
        for (int promise = 1; promise <= PROMISES; promise++) {
            int from = saidFrom(promise);
            int to = promiseTo(promise);
            edgesAreNamed(from, to, "promise " + promise);
            refusalsAreNamed(from, to, promise);
        }
    }

    private void edgesAreNamed(int from, int to, String where) {
        Matcher edge = EDGE.matcher(document).region(from, to);
        while (edge.find()) {
            boolean whole = true;
            for (int i = edge.start(); i < edge.end(); i++) {
                whole &= named[i];
            }
            String around = document.substring(Math.max(0, edge.start() - 40), Math.min(document.length(), edge.end() + 20));
            check.due(where + ": no test is named for \".." + around + "..\"", whole, true);
        }
    }

    private void refusalsAreNamed(int from, int to, int promise) {
        Matcher refusal = REFUSAL.matcher(document).region(from, to);
        if (!refusal.find()) {
            return;
        }
        for (int i = refusal.start(); i < to; i++) {
            if (Character.isLetterOrDigit(document.charAt(i)) && !named[i]) {
                String rest = document.substring(i, to);
                check.due("promise " + promise + ": no test is named for \"" + rest + "\"", false, true);
                return;
            }
        }
    }
}
