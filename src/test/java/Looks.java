import java.util.ArrayList;
import java.util.Arrays;
import java.util.List;
import java.util.NoSuchElementException;
import java.util.function.Supplier;

/** All that can be looked at in an object from outside, its TAPE, LAWS, IMAGE and what can be UNDONE too. */
final class Looks {
    static final long THROWN = -77777777;
    private static final int SQUARES = 20;
    private static final int CURTAINS = 10;
    private static final int PERSONS = 6;

    interface Ask {
        long of(VelvetStates x);
    }

    /** A look with all its answers; each has an object of its own, so that none is used for too many calls. */
    private interface Look {
        void at(VelvetStates x, List<Long> seen);
    }

    private static final List<String> NAMES = List.of("counts and glances", "CURTAINS and PERSONS", "SQUARES", "LOG",
        "who leant", "the TAPE", "the TAPE as a ROOM", "the TAPE as a LAW", "LAWS", "ACTS to be UNDONE", "the IMAGE", "a YEAR more");
    private static final List<Look> LOOKS = List.of(Looks::counts, Looks::things, Looks::squares, Looks::log,
        Looks::leant, Looks::tape, Looks::tapeAsRoom, Looks::tapeAsLaw, Looks::laws, Looks::undone, Looks::image, Looks::later);

    private Looks() {
    }

    static long person(VelvetStates x, int person, int what) {
        try {
            return x.person(person, what);
        } catch (NoSuchElementException e) {
            return THROWN;
        }
    }

    static long[] statuses(VelvetStates x) {
        long[] found = new long[5];
        for (int what = 0; what < found.length; what++) {
            found[what] = x.status(what);
        }
        return found;
    }

    /** What looks otherwise behind the call than in a twin that was not asked; empty: nothing. */
    static String changed(Supplier<VelvetStates> world, Ask ask) {
        return apart(world, () -> {
            VelvetStates x = world.get();
            ask.of(x);
            return x;
        });
    }

    /** What looks otherwise in the one than in the other; empty: nothing. */
    static String apart(Supplier<VelvetStates> one, Supplier<VelvetStates> other) {
        StringBuilder found = new StringBuilder();
        for (int i = 0; i < LOOKS.size(); i++) {
            List<Long> inOne = new ArrayList<>();
            LOOKS.get(i).at(one.get(), inOne);
            List<Long> inOther = new ArrayList<>();
            LOOKS.get(i).at(other.get(), inOther);
            if (!inOne.equals(inOther)) {
                found.append(NAMES.get(i)).append(". ");
            }
        }
        return found.toString();
    }

    /** The same for what is not refused but is to change nothing, STATUS neither. */
    static String changedWithStatus(Supplier<VelvetStates> world, Ask ask) {
        VelvetStates x = world.get();
        ask.of(x);
        boolean same = Arrays.equals(statuses(world.get()), statuses(x));
        return (same ? "" : "STATUS. ") + changed(world, ask);
    }

    private static void counts(VelvetStates x, List<Long> seen) {
        for (int what = 0; what < 15; what++) {
            seen.add((long) x.count(what));
        }
        for (int what = 0; what < 4; what++) {
            seen.add((long) x.rule(what));
        }
        for (int glance : new int[] {x.cross(), x.realm(), x.gathered(), x.dark(), x.guests(), x.first(0), x.first(1)}) {
            seen.add((long) glance);
        }
        for (int n = 1; n <= 60; n++) {
            seen.add((long) x.cloth(n));
        }
    }

    private static void things(VelvetStates x, List<Long> seen) {
        for (int c = 0; c < CURTAINS; c++) {
            for (int what = 0; what < 8; what++) {
                seen.add((long) x.curtain(c, what));
            }
        }
        for (int p = 0; p < PERSONS; p++) {
            for (int what = 0; what < 4; what++) {
                seen.add(person(x, p, what));
            }
            seen.add((long) x.air(p));
        }
    }

    private static void squares(VelvetStates x, List<Long> seen) {
        for (int square = 0; square < SQUARES; square++) {
            seen.add((long) x.state(square));
            seen.add((long) x.lord(square));
            seen.add((long) x.lit(square));
            seen.add((long) x.borders(square));
            seen.add((long) x.touch(0, square));
        }
    }

    private static void log(VelvetStates x, List<Long> seen) {
        for (int i = 0; i < 61; i++) {
            for (int what = 0; what < 3; what++) {
                seen.add((long) x.log(i, what));
            }
        }
    }

    private static void leant(VelvetStates x, List<Long> seen) {
        for (int k = 1; k <= 3; k++) {
            for (int i = -1; i < 20; i++) {
                seen.add((long) x.leant(k, i));
            }
            seen.add((long) x.sure(k));
            seen.add((long) x.best(k));
        }
        // How many more can be told shows how many there are.
        for (int i = 0; i < 11; i++) {
            seen.add((long) x.faded(0, true));
        }
    }

    private static void tape(VelvetStates x, List<Long> seen) {
        for (int length = x.count(4); length >= 0 && seen.size() < 300; length--) {
            seen.add(x.end(length) ? 1L : 0L);
            seen.add((long) x.fault(0));
            seen.add((long) x.fault(1));
        }
    }

    private static void tapeAsRoom(VelvetStates x, List<Long> seen) {
        seen.add((long) x.text(0));
        things(x, seen);
    }

    private static void tapeAsLaw(VelvetStates x, List<Long> seen) {
        seen.add((long) x.text(1));
        laws(x, seen);
    }

    private static void laws(VelvetStates x, List<Long> seen) {
        for (int law = -1; law < 5; law++) {
            seen.add(x.law(law) ? 1L : 0L);
            for (int c = 0; c < CURTAINS; c++) {
                seen.add((long) x.curtain(c, 7));
            }
        }
    }

    private static void undone(VelvetStates x, List<Long> seen) {
        for (int i = 0; i < 41; i++) {
            seen.add((long) x.undo());
            for (int what : new int[] {6, 8, 10}) {
                seen.add((long) x.count(what));
            }
            seen.add((long) x.gathered());
            seen.add((long) x.guests());
            seen.add((long) x.log(0, 1));
        }
        things(x, seen);
    }

    private static void image(VelvetStates x, List<Long> seen) {
        seen.add((long) x.back());
        seen.add((long) x.count(14));
        seen.add((long) x.count(13));
        things(x, seen);
        log(x, seen);
    }

    private static void later(VelvetStates x, List<Long> seen) {
        seen.add((long) x.centuries(1, 5));
        seen.add((long) x.years(1));
        counts(x, seen);
        things(x, seen);
    }
}
