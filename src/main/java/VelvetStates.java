import java.util.Arrays;
import java.util.NoSuchElementException;

/** Curtains are borders: ../shared/DOC.md says what each call promises. */
public final class VelvetStates {
    public static final int NONE = -1;
    public static final int HIDDEN = -1000000;

    private static final int MOST_BYTES = 240;
    private static final int MOST_SQUARES = 20;
    private static final int MOST_CURTAINS = 10;
    private static final int MOST_PERSONS = 6;
    private static final int MOST_CLAUSES = 1 + MOST_CURTAINS + MOST_PERSONS;
    private static final int MOST_LAWS = 4;
    private static final int MOST_NESTED = 6;
    private static final int MOST_FADED = 10;
    private static final int MOST_CLOTH = 99;
    private static final int MOST_LIGHT = 99;
    private static final int MOST_HEAT = 99;
    private static final int MOST_GAP = 9;
    private static final int MOST_MENDED = 9;
    private static final int MOST_LEANING = 3;
    private static final int FADING_LIGHT = 20;
    private static final int LAST_YEAR = 999;
    private static final int MOST_YEARS = 60;
    private static final int YEARS_LOOKED_AHEAD = 200;

    private static final int MOST_UNDONE = 40;
    private static final int MOST_LOGGED = 60;
    // An undone year uncovers an older entry, so as many more are kept as can be undone.
    private static final int LOG_ROWS = MOST_LOGGED + MOST_UNDONE;
    private static final int LOG_PARTS = 3;
    private static final int SCENE_PARTS = MOST_CURTAINS + MOST_PERSONS + 2;

    private static final int SORT_ROOM = 0;
    private static final int SORT_LAW = 1;
    private static final int NO_SUCH_SORT = -2;

    private static final int NO_SUCH_ONE = 0;
    private static final int OUT_OF_BOUNDS = 1;
    private static final int NO_RIGHT = 2;
    private static final int HAS_FALLEN = 3;
    private static final int NO_MORE_YEARS = 4;
    private static final int REASONS = 5;

    // The items of all sorts of clauses in one table: those of s, then of c, then of p.
    private static final int ITEMS_OF_S = 0;
    private static final int ITEMS_OF_C = 4;
    private static final int ITEMS_OF_P = 10;
    private static final int ITEMS = 12;
    private static final char[] ITEM_LETTER = {'w', 'h', 'l', 'm', 'a', 'd', 'v', 'k', 'g', 'o', 'c', 'm'};
    private static final int[] ITEM_LEAST = {1, 1, 0, 0, 0, 0, 0, 1, 0, 0, 0, 1};
    private static final int[] ITEM_MOST = {5, 4, 99, 9, 19, 1, 9, 99, 9, 1, 19, 9};
    private static final int[] ITEM_WITHOUT = {4, 3, 40, 1, 0, 0, 5, 30, 1, 0, 0, 3};

    private static final int MOST_DIGITS_OF_ITEM = 2;
    private static final int MOST_DIGITS_OF_LAW = 4;
    private static final int MOST_NUMBER = 1000000;
    private static final char[] LAW_LETTER = {'v', 'k', 'g', 'l', 'y', 'c'};
    private static final int LAW_LETTERS = 6;
    private static final int LAW_STACK = 32;

    private static final int STEP_SHIFT = 16;
    private static final int STEP_MASK = 65535;
    // A step bears the number of its sign; those that a LAW does not write have one below all signs.
    private static final int STEP_NUMBER = 1;
    private static final int STEP_LETTER = 2;
    private static final int STEP_SKIP = 3;
    private static final int STEP_ANSWER = 4;

    private static final long DRAW_TIMES = 6364136223846793005L;
    private static final long DRAW_PLUS = 1442695040888963407L;
    private static final int DRAW_SHIFT = 33;

    private final int[] tape = new int[MOST_BYTES];
    private int bytes = 0;
    private final RoomReader roomReader = new RoomReader();
    private final LawReader lawReader = new LawReader();
    private final Laws laws = new Laws();
    private Room room = new Room();
    private Room spare = new Room();
    private final Scene scene = new Scene();
    private final Scene trial = new Scene();
    private final Past past = new Past();
    private final Floor floor = new Floor();
    private final Light light = new Light();
    private final Table table = new Table();
    private final int[] refusals = new int[REASONS];
    private int warmth = 0;
    private long lot = 0;
    private int fadings = 0;
    private int fadedBy = 0;
    private int fadedNot = 0;

    public VelvetStates() {
    }

    // ---- texts

    public int feed(int a, int b, int c, int d, int e) {
        int more = bytesIn(a) + bytesIn(b) + bytesIn(c) + bytesIn(d) + bytesIn(e);
        if (bytes + more > MOST_BYTES) {
            return NONE;
        }
        put(a);
        put(b);
        put(c);
        put(d);
        put(e);
        return bytes;
    }

    private static int bytesIn(int word) {
        int found = 0;
        for (int shift = 24; shift >= 0; shift -= 8) {
            if ((word >>> shift & 255) != 0) {
                found++;
            }
        }
        return found;
    }

    private void put(int word) {
        for (int shift = 24; shift >= 0; shift -= 8) {
            int sign = word >>> shift & 255;
            if (sign != 0 && bytes < MOST_BYTES) {
                tape[bytes] = sign;
                bytes++;
            }
        }
    }

    public boolean end(int n) {
        if (n < 0 || n > bytes) {
            return false;
        }
        bytes = n;
        return true;
    }

    public int fault(int sort) {
        if (sort == SORT_ROOM) {
            return roomReader.read(tape, bytes, spare);
        }
        if (sort == SORT_LAW) {
            return lawReader.read(tape, bytes);
        }
        return NO_SUCH_SORT;
    }

    public int text(int sort) {
        if (sort == SORT_ROOM && roomReader.read(tape, bytes, spare) == NONE) {
            bytes = 0;
            return enterSpare();
        }
        if (sort == SORT_LAW && laws.known < MOST_LAWS && lawReader.read(tape, bytes) == NONE) {
            bytes = 0;
            return laws.add(lawReader.code, lawReader.steps);
        }
        return NONE;
    }

    private int enterSpare() {
        Room left = room;
        room = spare;
        spare = left;
        scene.enter(room);
        past.forget();
        fadings = 0;
        fadedBy = 0;
        fadedNot = 0;
        return room.squares;
    }

    // ---- what is told of the ROOM

    private boolean hasRoom() {
        return room.squares > 0;
    }

    private boolean isSquare(int square) {
        return square >= 0 && square < room.squares;
    }

    private boolean isCurtain(int curtain) {
        return curtain >= 0 && curtain < room.curtains;
    }

    private boolean isPerson(int person) {
        return person >= 0 && person < room.persons;
    }

    private static boolean has(int bits, int number) {
        return (bits >> number & 1) != 0;
    }

    private static boolean within(int n, int least, int most) {
        return n >= least && n <= most;
    }

    public int rule(int what) {
        if (!hasRoom()) {
            return NONE;
        }
        switch (what) {
            case 0:
                return room.width;
            case 1:
                return room.height;
            case 2:
                return room.window;
            case 3:
                return room.moths;
            default:
                return NONE;
        }
    }

    public int curtain(int curtain, int what) {
        if (!isCurtain(curtain)) {
            return NONE;
        }
        switch (what) {
            case 0:
                return room.near[curtain];
            case 1:
                return room.far[curtain];
            case 2:
                return room.veil[curtain];
            case 3:
                return scene.fabric[curtain];
            case 4:
                return room.gap[curtain];
            case 5:
                return has(scene.opened, curtain) ? 1 : 0;
            case 6:
                return has(scene.hung(), curtain) ? 1 : 0;
            case 7:
                return laws.takes(scene, curtain);
            default:
                return NONE;
        }
    }

    public int person(int person, int what) throws NoSuchElementException {
        if (!isPerson(person) || !within(what, 0, 3)) {
            throw new NoSuchElementException();
        }
        switch (what) {
            case 0:
                return scene.place[person];
            case 1:
                return room.might[person];
            case 2:
                return lowest(stateAround(scene.place[person]));
            default:
                return lordIn(stateAround(scene.place[person])) == person ? 1 : 0;
        }
    }

    public boolean law(int law) {
        if (law < NONE || law >= laws.known) {
            return false;
        }
        laws.holding = law;
        return true;
    }

    // ---- STATES and light

    private static int lowest(int bits) {
        return bits == 0 ? NONE : Integer.numberOfTrailingZeros(bits);
    }

    private int stateAround(int square) {
        floor.part(room, scene.hung());
        return floor.reach(1 << square);
    }

    private int statesOf(Scene seen) {
        floor.part(room, seen.hung());
        return floor.parts(room.allSquares());
    }

    private int lordIn(int squares) {
        int mightiest = NONE;
        for (int p = 0; p < room.persons; p++) {
            if (has(squares, scene.place[p]) && (mightiest < 0 || room.might[p] > room.might[mightiest])) {
                mightiest = p;
            }
        }
        return mightiest;
    }

    private void shine(Scene lighted) {
        int hung = lighted.hung();
        light.weigh(lighted, laws, hung);
        light.hang(room, hung);
        light.spread(room, 0, room.window);
    }

    public int state(int square) {
        return isSquare(square) ? lowest(stateAround(square)) : NONE;
    }

    public int lord(int square) {
        return isSquare(square) ? lordIn(stateAround(square)) : NONE;
    }

    public int lit(int square) {
        if (!isSquare(square)) {
            return NONE;
        }
        shine(scene);
        return light.bright[square];
    }

    public int touch(int one, int other) {
        if (!isSquare(one) || !isSquare(other)) {
            return NONE;
        }
        int here = stateAround(one);
        int there = stateAround(other);
        if (here == there) {
            return 0;
        }
        return (bordersOf(here) & bordersOf(there)) != 0 ? 1 : 0;
    }

    private int bordersOf(int squares) {
        int hung = scene.hung();
        int found = 0;
        for (int c = 0; c < room.curtains; c++) {
            if (has(hung, c) && has(squares, room.near[c]) != has(squares, room.far[c])) {
                found |= 1 << c;
            }
        }
        return found;
    }

    private int besides(int square) {
        int found = 0;
        for (int c = 0; c < room.curtains; c++) {
            if (room.near[c] == square || room.far[c] == square) {
                found |= 1 << c;
            }
        }
        return found;
    }

    // ---- ACTS

    private int refuse(int reason) {
        if (within(reason, 0, REASONS - 1)) {
            refusals[reason]++;
        }
        return NONE;
    }

    private int rightsOf(int person) {
        int squares = stateAround(scene.place[person]);
        int found = 0;
        for (int c = 0; c < room.curtains; c++) {
            if (has(squares, room.near[c]) || has(squares, room.far[c])) {
                found |= 1 << c;
            }
        }
        return found;
    }

    public int pull(int person, int curtain, boolean back) {
        if (!isPerson(person) || !isCurtain(curtain)) {
            return refuse(NO_SUCH_ONE);
        }
        if (!has(rightsOf(person), curtain) || has(scene.opened, curtain) == back) {
            return refuse(NO_RIGHT);
        }
        if (scene.fabric[curtain] == 0) {
            return refuse(HAS_FALLEN);
        }
        past.remember(scene);
        scene.opened ^= 1 << curtain;
        return statesOf(scene);
    }

    public int go(int person, int square) {
        if (!isPerson(person) || !isSquare(square)) {
            return refuse(NO_SUCH_ONE);
        }
        int squares = stateAround(scene.place[person]);
        if (!has(squares, square) || scene.place[person] == square) {
            return refuse(NO_RIGHT);
        }
        past.remember(scene);
        scene.place[person] = square;
        return lowest(squares);
    }

    public int creep(int person, int curtain) {
        if (!isPerson(person) || !isCurtain(curtain)) {
            return refuse(NO_SUCH_ONE);
        }
        int from = scene.place[person];
        boolean hangsBeside = has(scene.hung() & besides(from), curtain);
        if (!hangsBeside || room.gap[curtain] < room.might[person]) {
            return refuse(NO_RIGHT);
        }
        past.remember(scene);
        scene.place[person] = room.near[curtain] == from ? room.far[curtain] : room.near[curtain];
        return scene.place[person];
    }

    public int mend(int curtain, int n) {
        if (!isCurtain(curtain)) {
            return refuse(NO_SUCH_ONE);
        }
        if (!within(n, 1, MOST_MENDED) || scene.fabric[curtain] + n > MOST_CLOTH) {
            return refuse(OUT_OF_BOUNDS);
        }
        if (scene.fabric[curtain] == 0) {
            return refuse(HAS_FALLEN);
        }
        past.remember(scene);
        scene.fabric[curtain] += n;
        return scene.fabric[curtain];
    }

    public int years(int n) {
        if (!hasRoom()) {
            return refuse(NO_SUCH_ONE);
        }
        if (!within(n, 1, MOST_YEARS)) {
            return refuse(OUT_OF_BOUNDS);
        }
        if (scene.year + n > LAST_YEAR) {
            return refuse(NO_MORE_YEARS);
        }
        for (int i = 0; i < n; i++) {
            past.remember(scene);
            liveYear();
        }
        return scene.year;
    }

    private void liveYear() {
        shine(scene);
        int fell = scene.wear(light.bright);
        shine(scene);
        past.note(scene.year, statesOf(scene), light.sum(room.squares), fell);
    }

    public boolean heat(int v) {
        if (!within(v, 0, MOST_HEAT) || v == warmth) {
            return false;
        }
        warmth = v;
        return true;
    }

    public int centuries(int n, long seed) {
        if (!hasRoom() || !within(n, 1, MOST_YEARS) || scene.year + n > LAST_YEAR) {
            return NONE;
        }
        lot = seed;
        for (int i = 0; i < n; i++) {
            past.remember(scene);
            drawCurtains();
            drawPerson();
            liveYear();
        }
        return scene.year;
    }

    private int draw(int m) {
        lot = lot * DRAW_TIMES + DRAW_PLUS;
        return m > 0 ? (int) ((lot >>> DRAW_SHIFT) % m) : 0;
    }

    private void drawCurtains() {
        if (draw(100) < warmth) {
            // The document says all: a FALLEN one is drawn back here too.
            scene.opened = room.allCurtains();
        } else if (room.curtains > 0) {
            scene.opened ^= 1 << draw(room.curtains) & ~scene.fallen();
        }
    }

    private void drawPerson() {
        int person = draw(room.persons);
        int square = draw(room.squares);
        if (isPerson(person) && has(stateAround(scene.place[person]), square)) {
            scene.place[person] = square;
        }
    }

    public int status(int what) {
        return within(what, 0, REASONS - 1) ? refusals[what] : NONE;
    }

    public int undo() {
        if (past.acts == 0) {
            return NONE;
        }
        past.recall(scene);
        return past.acts;
    }

    private int logged() {
        // Each YEAR writes one row and an UNDONE one takes it away, so the YEAR counts them.
        return Math.min(scene.year, MOST_LOGGED);
    }

    public int log(int i, int what) {
        if (!within(i, 0, logged() - 1) || !within(what, 0, LOG_PARTS - 1)) {
            return NONE;
        }
        return past.noted(scene.year - i, what);
    }

    // ---- what would be

    private boolean areSquares(int bits) {
        return (bits & ~room.allSquares()) == 0;
    }

    public int join(int squares, int others) {
        if (!hasRoom() || !areSquares(squares) || !areSquares(others) || squares == 0) {
            return NONE;
        }
        int hung = scene.hung();
        int fallen = scene.fallen();
        int fewest = NONE;
        for (int set = 0; set <= room.allCurtains(); set++) {
            if ((set & fallen) != 0 || fewest != NONE && Integer.bitCount(set) >= Integer.bitCount(fewest)) {
                continue;
            }
            floor.part(room, hung ^ set);
            int joined = floor.reach(squares & -squares);
            if ((squares & ~joined) == 0 && (others & joined) == 0) {
                fewest = set;
            }
        }
        return fewest;
    }

    public int hide(int square, int other, int n) {
        if (!isSquare(square) || !isSquare(other) || !within(n, 1, MOST_LIGHT)) {
            return NONE;
        }
        int hung = scene.hung();
        int free = scene.drawnBack();
        light.weigh(scene, laws, hung | free);
        // What all of them together leave bright, none of their sets hides.
        if (brightWith(hung | free, square, other, n) > 0) {
            return NONE;
        }
        int fewest = free;
        for (int set = 0; set < free; set++) {
            if ((set & ~free) != 0 || Integer.bitCount(set) >= Integer.bitCount(fewest)) {
                continue;
            }
            if (brightWith(hung | set, square, other, n) == 0) {
                fewest = set;
            }
        }
        return fewest;
    }

    private int brightWith(int hung, int square, int other, int n) {
        light.hang(room, hung);
        light.spread(room, square, n);
        return light.bright[other];
    }

    public int seen(int square, int n) {
        if (!isSquare(square) || !within(n, 1, MOST_LIGHT)) {
            return NONE;
        }
        int hung = scene.hung();
        light.weigh(scene, laws, hung);
        light.hang(room, hung);
        light.spread(room, square, n);
        return room.allSquares() & ~light.darkness(room.squares);
    }

    public int under(int one, int other, int n) {
        if (!isSquare(one) || !isSquare(other) || !within(n, 0, MOST_GAP)) {
            return NONE;
        }
        int ways = wideEnough(n);
        int reached = stateAround(one);
        for (int passed = 0; passed <= room.curtains; passed++) {
            if (has(reached, other)) {
                return passed;
            }
            reached = floor.reach(reached | beyond(reached, ways));
        }
        return NONE;
    }

    private int beyond(int squares, int ways) {
        int found = 0;
        for (int c = 0; c < room.curtains; c++) {
            if (has(ways, c) && has(squares, room.near[c])) {
                found |= 1 << room.far[c];
            }
            if (has(ways, c) && has(squares, room.far[c])) {
                found |= 1 << room.near[c];
            }
        }
        return found;
    }

    private int wideEnough(int n) {
        int hung = scene.hung();
        int found = 0;
        for (int c = 0; c < room.curtains; c++) {
            if (has(hung, c) && room.gap[c] >= n) {
                found |= 1 << c;
            }
        }
        return found;
    }

    public int lead(int n) {
        return hasRoom() && within(n, 0, MOST_GAP) ? wideEnough(n) : NONE;
    }

    public int first(int what) {
        if (!hasRoom() || !within(what, 0, 1) || scene.hung() == 0) {
            return NONE;
        }
        trial.follow(scene);
        for (int year = 1; year <= YEARS_LOOKED_AHEAD; year++) {
            shine(trial);
            int fell = trial.wear(light.bright);
            if (fell != 0) {
                return what == 0 ? lowest(fell) : year;
            }
        }
        return NONE;
    }

    public int cloth(int n) {
        if (!hasRoom() || !within(n, 1, MOST_YEARS)) {
            return NONE;
        }
        trial.follow(scene);
        for (int i = 0; i < n; i++) {
            shine(trial);
            trial.wear(light.bright);
        }
        return scene.fabricOfAll() - trial.fabricOfAll();
    }

    // ---- games

    private boolean arePlayers(int one, int other) {
        return isPerson(one) && isPerson(other) && one != other;
    }

    private int shareOf(int person) {
        int squares = floor.reach(1 << scene.place[person]);
        int size = Integer.bitCount(squares);
        return lordIn(squares) == person ? 2 * size : size;
    }

    public int game(int one, int other, int x, int y, int what) {
        if (!arePlayers(one, other) || !within(what, 0, 1)
                || !within(x, 0, room.curtains) || !within(y, 0, room.curtains)) {
            return HIDDEN;
        }
        int fallen = scene.fallen();
        int drawnOtherwise = 1 << x & rightsOf(one) | 1 << y & rightsOf(other);
        floor.part(room, scene.hung() ^ drawnOtherwise & ~fallen);
        return shareOf(what == 0 ? one : other);
    }

    private void playAll(int one, int other) {
        int standing = ~scene.fallen();
        int mayOne = rightsOf(one) & standing;
        int mayOther = rightsOf(other) & standing;
        int hung = scene.hung();
        table.lay(room.curtains + 1);
        for (int x = 0; x <= room.curtains; x++) {
            for (int y = 0; y <= room.curtains; y++) {
                floor.part(room, hung ^ (1 << x & mayOne | 1 << y & mayOther));
                table.put(x, y, shareOf(one), shareOf(other));
            }
        }
    }

    public int rests(int one, int other, int i) {
        if (!arePlayers(one, other) || i < NONE) {
            return NONE;
        }
        playAll(one, other);
        int found = 0;
        for (int x = 0; x <= room.curtains; x++) {
            for (int y = 0; y <= room.curtains; y++) {
                if (!table.restsAt(x, y)) {
                    continue;
                }
                if (found == i) {
                    return 10 * x + y;
                }
                found++;
            }
        }
        return i == NONE ? found : NONE;
    }

    public int treaty(int one, int other) {
        if (!arePlayers(one, other)) {
            return NONE;
        }
        playAll(one, other);
        // Both draw none, and neither has more by drawing alone.
        return table.restsAt(room.curtains, room.curtains) ? 1 : 0;
    }

    public int air(int person) {
        if (!isPerson(person)) {
            return NONE;
        }
        int squares = stateAround(scene.place[person]);
        int breathing = 0;
        for (int p = 0; p < room.persons; p++) {
            if (has(squares, scene.place[p])) {
                breathing++;
            }
        }
        return breathing > 0 ? Integer.bitCount(squares) / breathing : NONE;
    }

    // ---- who leant

    public int faded(int curtain, boolean is) {
        if (!isCurtain(curtain) || fadings >= MOST_FADED) {
            return NONE;
        }
        if (is) {
            fadedBy |= 1 << curtain;
        } else {
            fadedNot |= 1 << curtain;
        }
        fadings++;
        return fadings;
    }

    private int leanedOnBy(int persons) {
        int found = 0;
        for (int p = 0; p < room.persons; p++) {
            if (has(persons, p)) {
                found |= besides(scene.place[p]);
            }
        }
        return found;
    }

    private boolean fits(int persons, int k) {
        if (Integer.bitCount(persons) != k) {
            return false;
        }
        int curtains = leanedOnBy(persons);
        return (fadedBy & ~curtains) == 0 && (fadedNot & curtains) == 0;
    }

    private boolean canLean(int k) {
        return hasRoom() && within(k, 1, MOST_LEANING);
    }

    public int leant(int k, int i) {
        if (!canLean(k) || i < NONE) {
            return NONE;
        }
        int found = 0;
        for (int set = 1; set <= room.allPersons(); set++) {
            if (!fits(set, k)) {
                continue;
            }
            if (found == i) {
                return set;
            }
            found++;
        }
        return i == NONE ? found : NONE;
    }

    public int sure(int k) {
        if (!canLean(k)) {
            return NONE;
        }
        int inAll = NONE;
        for (int set = 1; set <= room.allPersons(); set++) {
            if (fits(set, k)) {
                // NONE has all bits, so the first set stays as it is.
                inAll &= set;
            }
        }
        return inAll;
    }

    public int best(int k) {
        if (!canLean(k) || leant(k, NONE) == 0) {
            return NONE;
        }
        int chosen = NONE;
        int leastApart = 0;
        for (int c = 0; c < room.curtains; c++) {
            int apart = apartBy(c, k);
            if (chosen == NONE || apart < leastApart) {
                chosen = c;
                leastApart = apart;
            }
        }
        return chosen;
    }

    private int apartBy(int curtain, int k) {
        int more = 0;
        for (int set = 1; set <= room.allPersons(); set++) {
            if (fits(set, k)) {
                more += has(leanedOnBy(set), curtain) ? 1 : -1;
            }
        }
        return Math.abs(more);
    }

    // ---- what is seen at a glance

    public int cross() {
        if (!hasRoom()) {
            return NONE;
        }
        int hung = scene.hung();
        int found = 0;
        for (int square = 0; square < room.squares; square++) {
            if (Integer.bitCount(hung & besides(square)) >= 3) {
                found |= 1 << square;
            }
        }
        return found;
    }

    public int realm() {
        if (!hasRoom()) {
            return NONE;
        }
        floor.part(room, scene.hung());
        int name = NONE;
        int most = 0;
        for (int square = 0; square < room.squares; square++) {
            int size = Integer.bitCount(floor.reach(1 << square));
            if (size > most) {
                most = size;
                name = square;
            }
        }
        return name;
    }

    public int gathered() {
        return hasRoom() ? scene.drawnBack() : NONE;
    }

    public int dark() {
        if (!hasRoom()) {
            return NONE;
        }
        shine(scene);
        return light.darkness(room.squares);
    }

    public int borders(int square) {
        return isSquare(square) ? bordersOf(stateAround(square)) : NONE;
    }

    public int guests() {
        if (!hasRoom()) {
            return NONE;
        }
        int found = 0;
        for (int p = 0; p < room.persons; p++) {
            if (lordIn(stateAround(scene.place[p])) != p) {
                found |= 1 << p;
            }
        }
        return found;
    }

    // ---- images

    public int image() {
        if (!hasRoom()) {
            return NONE;
        }
        past.keepImage(scene);
        return scene.year;
    }

    public int back() {
        if (!past.imaged) {
            return NONE;
        }
        past.returnTo(scene);
        return scene.year;
    }

    public int count(int what) {
        switch (what) {
            case 0:
                return room.squares;
            case 1:
                return room.curtains;
            case 2:
                return room.persons;
            case 3:
                return laws.known;
            case 4:
                return bytes;
            case 5:
                return laws.holding;
            case 6:
                return scene.year;
            case 7:
                return statesOf(scene);
            case 8:
                return scene.hung();
            case 9:
                return scene.fallen();
            case 10:
                return scene.fabricOfAll();
            case 11:
                return warmth;
            case 12:
                return fadings;
            case 13:
                return logged();
            case 14:
                return past.acts;
            default:
                return HIDDEN;
        }
    }

    /** What a ROOM's text tells and no ACT changes. */
    private static final class Room {
        int width = 0;
        int height = 0;
        int window = 0;
        int moths = 0;
        int squares = 0;
        // SQUARES (bits) with a SQUARE to their right, and with one below.
        int wide = 0;
        int deep = 0;
        int curtains = 0;
        final int[] near = new int[MOST_CURTAINS];
        final int[] far = new int[MOST_CURTAINS];
        final int[] rail = new int[MOST_CURTAINS];
        final int[] veil = new int[MOST_CURTAINS];
        final int[] gap = new int[MOST_CURTAINS];
        final int[] newFabric = new int[MOST_CURTAINS];
        int newlyOpened = 0;
        int persons = 0;
        final int[] might = new int[MOST_PERSONS];
        final int[] newPlace = new int[MOST_PERSONS];

        int allSquares() {
            return (1 << squares) - 1;
        }

        int allCurtains() {
            return (1 << curtains) - 1;
        }

        int allPersons() {
            return (1 << persons) - 1;
        }

        void clear() {
            curtains = 0;
            newlyOpened = 0;
            persons = 0;
            setRules(ITEM_WITHOUT);
        }

        void setRules(int[] item) {
            width = item[ITEMS_OF_S];
            height = item[ITEMS_OF_S + 1];
            window = item[ITEMS_OF_S + 2];
            moths = item[ITEMS_OF_S + 3];
        }

        void addCurtain(int[] item) {
            if (curtains >= MOST_CURTAINS) {
                return;
            }
            near[curtains] = item[ITEMS_OF_C];
            rail[curtains] = item[ITEMS_OF_C + 1];
            veil[curtains] = item[ITEMS_OF_C + 2];
            newFabric[curtains] = item[ITEMS_OF_C + 3];
            gap[curtains] = item[ITEMS_OF_C + 4];
            newlyOpened |= item[ITEMS_OF_C + 5] << curtains;
            curtains++;
        }

        void addPerson(int[] item) {
            if (persons >= MOST_PERSONS) {
                return;
            }
            newPlace[persons] = item[ITEMS_OF_P];
            might[persons] = item[ITEMS_OF_P + 1];
            persons++;
        }

        /** Whether all that was told can stand together: told only when the whole text is known. */
        boolean settle() {
            laySquares();
            if (persons == 0) {
                return false;
            }
            for (int p = 0; p < persons; p++) {
                if (newPlace[p] >= squares) {
                    return false;
                }
            }
            return hangRails();
        }

        private void laySquares() {
            squares = width * height;
            wide = 0;
            deep = 0;
            for (int row = 0; row < height; row++) {
                for (int column = 0; column < width; column++) {
                    int bit = 1 << row * width + column;
                    wide |= column + 1 < width ? bit : 0;
                    deep |= row + 1 < height ? bit : 0;
                }
            }
        }

        private boolean hangRails() {
            int rightLeft = wide;
            int belowLeft = deep;
            for (int c = 0; c < curtains; c++) {
                boolean toRight = rail[c] == 0;
                // A side that has its CURTAIN is no longer left for another one.
                if (!has(toRight ? rightLeft : belowLeft, near[c])) {
                    return false;
                }
                if (toRight) {
                    rightLeft &= ~(1 << near[c]);
                } else {
                    belowLeft &= ~(1 << near[c]);
                }
                far[c] = near[c] + (toRight ? 1 : width);
            }
            return true;
        }
    }

    /** What reading a ROOM and reading a LAW have in common. */
    private abstract static class Reader {
        int[] tape = new int[0];
        int length = 0;
        int at = 0;

        final void begin(int[] bytes, int count) {
            tape = bytes;
            length = Math.min(count, bytes.length);
            at = 0;
        }

        /** The next sign behind blanks, NONE at the end. */
        final int peek() {
            while (at < length && tape[at] == ' ') {
                at++;
            }
            return at < length ? tape[at] : NONE;
        }

        static boolean isDigit(int sign) {
            return sign >= '0' && sign <= '9';
        }
    }

    /** Reads the tape as a ROOM. */
    private static final class RoomReader extends Reader {
        private boolean ruled = false;
        private Room room = new Room();
        private final int[] item = new int[ITEMS];

        int read(int[] bytes, int count, Room into) {
            begin(bytes, count);
            ruled = false;
            room = into;
            room.clear();
            for (int clause = 0; clause <= MOST_CLAUSES; clause++) {
                int wrong = readClause();
                if (wrong != NONE) {
                    return wrong;
                }
                int sign = peek();
                if (sign == NONE) {
                    return room.settle() ? NONE : length;
                }
                if (sign != ';') {
                    return at;
                }
                at++;
            }
            return at;
        }

        private boolean isFree(int sign) {
            switch (sign) {
                case 's':
                    return !ruled;
                case 'c':
                    return room.curtains < MOST_CURTAINS;
                case 'p':
                    return room.persons < MOST_PERSONS;
                default:
                    return false;
            }
        }

        private int readClause() {
            int sort = peek();
            if (!isFree(sort)) {
                return at;
            }
            at++;
            System.arraycopy(ITEM_WITHOUT, 0, item, 0, ITEMS);
            int wrong = NONE;
            if (sort == 's') {
                wrong = readItems(ITEMS_OF_S, ITEMS_OF_C);
                room.setRules(item);
                ruled = true;
            } else if (sort == 'c') {
                wrong = readItems(ITEMS_OF_C, ITEMS_OF_P);
                room.addCurtain(item);
            } else {
                wrong = readItems(ITEMS_OF_P, ITEMS);
                room.addPerson(item);
            }
            return wrong;
        }

        private int readItems(int from, int to) {
            int had = 0;
            for (int i = from; i <= to; i++) {
                int which = itemOf(peek(), from, to);
                if (which == NONE) {
                    return NONE;
                }
                if (has(had, which)) {
                    return at;
                }
                had |= 1 << which;
                at++;
                int wrong = readNumber(which);
                if (wrong != NONE) {
                    return wrong;
                }
            }
            return NONE;
        }

        private static int itemOf(int sign, int from, int to) {
            for (int i = from; i < to; i++) {
                if (ITEM_LETTER[i] == sign) {
                    return i;
                }
            }
            return NONE;
        }

        private int readNumber(int which) {
            if (!isDigit(peek())) {
                return at;
            }
            int value = 0;
            for (int digit = 0; at < length && isDigit(tape[at]); digit++) {
                if (digit == MOST_DIGITS_OF_ITEM) {
                    return at;
                }
                value = value * 10 + tape[at] - '0';
                at++;
            }
            if (!within(value, ITEM_LEAST[which], ITEM_MOST[which])) {
                return at - 1;
            }
            item[which] = value;
            return NONE;
        }
    }

    /** Reads the tape as a LAW, and writes its steps so that a LAW is read once and used often. */
    private static final class LawReader extends Reader {
        final int[] code = new int[MOST_BYTES];
        int steps = 0;

        int read(int[] bytes, int count) {
            begin(bytes, count);
            steps = 0;
            for (int clause = 0; clause < MOST_BYTES; clause++) {
                // Reading stops at the first sign that does not fit, so where it stands is the FAULT.
                if (!readClause()) {
                    return at;
                }
                if (peek() == NONE) {
                    return NONE;
                }
                if (!take(';')) {
                    return at;
                }
            }
            return at;
        }

        private boolean take(int sign) {
            if (peek() != sign) {
                return false;
            }
            at++;
            return true;
        }

        private void write(int step, int with) {
            if (steps < MOST_BYTES) {
                code[steps] = step << STEP_SHIFT | with;
                steps++;
            }
        }

        private boolean readClause() {
            if (!take('y') || !take(':')) {
                return false;
            }
            int sign = peek();
            boolean begun = false;
            if (sign != '!' && sign != '(') {
                if (!readSum(0)) {
                    return false;
                }
                if (!isComparison(peek())) {
                    write(STEP_ANSWER, 0);
                    return true;
                }
                begun = true;
            }
            return readCondition(0, begun) && readAnswer();
        }

        private boolean readAnswer() {
            if (!take('?')) {
                return false;
            }
            int skip = steps;
            write(STEP_SKIP, 0);
            if (!readSum(0)) {
                return false;
            }
            write(STEP_ANSWER, 0);
            if (skip < MOST_BYTES) {
                code[skip] = STEP_SKIP << STEP_SHIFT | steps;
            }
            return true;
        }

        // begun: the first SUM of the CONDITION has been read already.
        private boolean readCondition(int depth, boolean begun) {
            if (!readTruth(depth, begun)) {
                return false;
            }
            for (int i = 0; i < MOST_BYTES && take('|'); i++) {
                if (!readTruth(depth, false)) {
                    return false;
                }
                write('|', 0);
            }
            return true;
        }

        private boolean readTruth(int depth, boolean begun) {
            if (!readUnit(depth, begun)) {
                return false;
            }
            for (int i = 0; i < MOST_BYTES && take('&'); i++) {
                if (!readUnit(depth, false)) {
                    return false;
                }
                write('&', 0);
            }
            return true;
        }

        private boolean readUnit(int depth, boolean begun) {
            if (begun) {
                return readComparison(depth);
            }
            int sign = peek();
            if (sign != '!' && sign != '(') {
                return readSum(depth) && readComparison(depth);
            }
            if (depth >= MOST_NESTED) {
                return false;
            }
            at++;
            if (sign == '(') {
                return readCondition(depth + 1, false) && take(')');
            }
            if (!readUnit(depth + 1, false)) {
                return false;
            }
            write('!', 0);
            return true;
        }

        private boolean readComparison(int depth) {
            int sign = peek();
            if (!isComparison(sign)) {
                return false;
            }
            at++;
            if (!readSum(depth)) {
                return false;
            }
            write(sign, 0);
            return true;
        }

        private static boolean isComparison(int sign) {
            return sign == '=' || sign == '<' || sign == '>';
        }

        private boolean readSum(int depth) {
            if (!readTerm(depth)) {
                return false;
            }
            for (int i = 0; i < MOST_BYTES; i++) {
                int sign = peek();
                if (sign != '+' && sign != '-') {
                    break;
                }
                at++;
                if (!readTerm(depth)) {
                    return false;
                }
                write(sign, 0);
            }
            return true;
        }

        private boolean readTerm(int depth) {
            if (!readAtom(depth)) {
                return false;
            }
            for (int i = 0; i < MOST_BYTES; i++) {
                int sign = peek();
                if (sign != '*' && sign != '/') {
                    break;
                }
                at++;
                if (!readAtom(depth)) {
                    return false;
                }
                write(sign, 0);
            }
            return true;
        }

        private boolean readAtom(int depth) {
            int sign = peek();
            if (isDigit(sign)) {
                return readNumber();
            }
            if (sign == '[') {
                if (depth >= MOST_NESTED) {
                    return false;
                }
                at++;
                return readSum(depth + 1) && take(']');
            }
            for (int i = 0; i < LAW_LETTERS; i++) {
                if (LAW_LETTER[i] == sign) {
                    at++;
                    write(STEP_LETTER, i);
                    return true;
                }
            }
            return false;
        }

        private boolean readNumber() {
            int value = 0;
            for (int digit = 0; at < length && isDigit(tape[at]); digit++) {
                if (digit == MOST_DIGITS_OF_LAW) {
                    return false;
                }
                value = value * 10 + tape[at] - '0';
                at++;
            }
            write(STEP_NUMBER, value);
            return true;
        }
    }

    /** The LAWS, and which of them holds. */
    private static final class Laws {
        int known = 0;
        int holding = NONE;
        private final int[][] codes = new int[MOST_LAWS][MOST_BYTES];
        private final int[] sizes = new int[MOST_LAWS];
        private final int[] letters = new int[LAW_LETTERS];
        private final int[] stack = new int[LAW_STACK];
        private int top = 0;

        int add(int[] code, int steps) {
            if (known >= MOST_LAWS || !within(steps, 0, MOST_BYTES)) {
                return NONE;
            }
            System.arraycopy(code, 0, codes[known], 0, steps);
            sizes[known] = steps;
            known++;
            return known - 1;
        }

        int takes(Scene scene, int curtain) {
            Room room = scene.room;
            int worth = room.veil[curtain] + scene.fabric[curtain] / 10;
            if (within(holding, 0, MOST_LAWS - 1)) {
                letters[0] = room.veil[curtain];
                letters[1] = scene.fabric[curtain];
                letters[2] = room.gap[curtain];
                letters[3] = room.window;
                letters[4] = scene.year;
                letters[5] = curtain;
                worth = worthBy(codes[holding], sizes[holding]);
            }
            return Math.max(1, Math.min(99, worth));
        }

        private int worthBy(int[] code, int steps) {
            top = 0;
            int at = 0;
            // A skip goes forward alone, so no step is taken twice.
            for (int i = 0; i < steps && at < steps; i++) {
                int step = code[at] >> STEP_SHIFT;
                int with = code[at] & STEP_MASK;
                at++;
                switch (step) {
                    case STEP_NUMBER:
                        push(with);
                        break;
                    case STEP_LETTER:
                        push(with < LAW_LETTERS ? letters[with] : 0);
                        break;
                    case STEP_SKIP:
                        at = pop() == 0 ? with : at;
                        break;
                    case STEP_ANSWER:
                        return pop();
                    case '!':
                        push(1 - pop());
                        break;
                    default:
                        int right = pop();
                        push(put(step, pop(), right));
                }
            }
            return 0;
        }

        private static int put(int step, int left, int right) {
            switch (step) {
                case '|':
                    return left | right;
                case '&':
                    return left & right;
                case '=':
                    return left == right ? 1 : 0;
                case '<':
                    return left < right ? 1 : 0;
                case '>':
                    return left > right ? 1 : 0;
                case '+':
                    return held((long) left + right);
                case '-':
                    return held((long) left - right);
                case '*':
                    return held((long) left * right);
                default:
                    return right == 0 ? 0 : held(left / right);
            }
        }

        private static int held(long number) {
            if (number > MOST_NUMBER) {
                return MOST_NUMBER;
            }
            return number < -MOST_NUMBER ? -MOST_NUMBER : (int) number;
        }

        private void push(int value) {
            if (top < LAW_STACK) {
                stack[top] = value;
                top++;
            }
        }

        private int pop() {
            if (top == 0) {
                return 0;
            }
            top--;
            return stack[top];
        }
    }

    /** What ACTS change. */
    private static final class Scene {
        Room room = new Room();
        final int[] fabric = new int[MOST_CURTAINS];
        final int[] place = new int[MOST_PERSONS];
        // CURTAINS (bits) that are drawn back, FALLEN or not.
        int opened = 0;
        int year = 0;

        void enter(Room entered) {
            room = entered;
            System.arraycopy(room.newFabric, 0, fabric, 0, MOST_CURTAINS);
            System.arraycopy(room.newPlace, 0, place, 0, MOST_PERSONS);
            opened = room.newlyOpened;
            year = 0;
        }

        void follow(Scene other) {
            room = other.room;
            System.arraycopy(other.fabric, 0, fabric, 0, MOST_CURTAINS);
            System.arraycopy(other.place, 0, place, 0, MOST_PERSONS);
            opened = other.opened;
            year = other.year;
        }

        void save(int[] rows, int from) {
            if (!within(from, 0, rows.length - SCENE_PARTS)) {
                return;
            }
            System.arraycopy(fabric, 0, rows, from, MOST_CURTAINS);
            System.arraycopy(place, 0, rows, from + MOST_CURTAINS, MOST_PERSONS);
            rows[from + SCENE_PARTS - 2] = opened;
            rows[from + SCENE_PARTS - 1] = year;
        }

        void load(int[] rows, int from) {
            if (!within(from, 0, rows.length - SCENE_PARTS)) {
                return;
            }
            System.arraycopy(rows, from, fabric, 0, MOST_CURTAINS);
            System.arraycopy(rows, from + MOST_CURTAINS, place, 0, MOST_PERSONS);
            opened = rows[from + SCENE_PARTS - 2];
            year = rows[from + SCENE_PARTS - 1];
        }

        int fallen() {
            int found = 0;
            for (int c = 0; c < room.curtains; c++) {
                if (fabric[c] == 0) {
                    found |= 1 << c;
                }
            }
            return found;
        }

        int hung() {
            return room.allCurtains() & ~opened & ~fallen();
        }

        int drawnBack() {
            return opened & ~fallen();
        }

        int fabricOfAll() {
            int sum = 0;
            for (int c = 0; c < room.curtains; c++) {
                sum += fabric[c];
            }
            return sum;
        }

        /** A YEAR goes by under this light: which CURTAINS FELL (bits). */
        int wear(int[] bright) {
            int hung = hung();
            int fell = 0;
            for (int c = 0; c < room.curtains; c++) {
                if (!has(hung, c)) {
                    continue;
                }
                boolean fades = bright[room.near[c]] >= FADING_LIGHT || bright[room.far[c]] >= FADING_LIGHT;
                fabric[c] = Math.max(0, fabric[c] - room.moths - (fades ? 1 : 0));
                if (fabric[c] == 0) {
                    fell |= 1 << c;
                }
            }
            year++;
            return fell;
        }
    }

    /** What was: scenes to go back to, the LOG, and the IMAGE. */
    private static final class Past {
        int acts = 0;
        private int next = 0;
        private final int[] scenes = new int[MOST_UNDONE * SCENE_PARTS];
        private final int[] rows = new int[LOG_ROWS * LOG_PARTS];
        boolean imaged = false;
        private final int[] imageScene = new int[SCENE_PARTS];
        private final int[] imageRows = new int[LOG_ROWS * LOG_PARTS];

        void forget() {
            acts = 0;
            imaged = false;
        }

        void remember(Scene scene) {
            scene.save(scenes, next * SCENE_PARTS);
            next = next + 1 < MOST_UNDONE ? next + 1 : 0;
            acts = Math.min(MOST_UNDONE, acts + 1);
        }

        void recall(Scene scene) {
            if (acts == 0) {
                return;
            }
            acts--;
            next = next > 0 ? next - 1 : MOST_UNDONE - 1;
            scene.load(scenes, next * SCENE_PARTS);
        }

        void note(int year, int states, int lightOfAll, int fell) {
            int from = rowOf(year);
            rows[from] = states;
            rows[from + 1] = lightOfAll;
            rows[from + 2] = fell;
        }

        int noted(int year, int what) {
            return within(what, 0, LOG_PARTS - 1) ? rows[rowOf(year) + what] : NONE;
        }

        private static int rowOf(int year) {
            return Math.floorMod(year, LOG_ROWS) * LOG_PARTS;
        }

        void keepImage(Scene scene) {
            scene.save(imageScene, 0);
            System.arraycopy(rows, 0, imageRows, 0, rows.length);
            imaged = true;
        }

        void returnTo(Scene scene) {
            scene.load(imageScene, 0);
            System.arraycopy(imageRows, 0, rows, 0, rows.length);
            acts = 0;
        }
    }

    /** Which SQUARES are joined, by bits. */
    private static final class Floor {
        private int width = 0;
        // SQUARES (bits) whose right side, whose lower side is open.
        private int right = 0;
        private int below = 0;

        void part(Room room, int hung) {
            width = room.width;
            right = room.wide;
            below = room.deep;
            for (int c = 0; c < room.curtains; c++) {
                if (!has(hung, c)) {
                    continue;
                }
                if (room.rail[c] == 0) {
                    right &= ~(1 << room.near[c]);
                } else {
                    below &= ~(1 << room.near[c]);
                }
            }
        }

        int reach(int squares) {
            int reached = squares;
            for (int step = 0; step < MOST_SQUARES; step++) {
                int before = reached;
                reached |= (before & right) << 1 | before >> 1 & right;
                reached |= (before & below) << width | before >> width & below;
                if (reached == before) {
                    break;
                }
            }
            return reached;
        }

        int parts(int squares) {
            int left = squares;
            int found = 0;
            for (int i = 0; i < MOST_SQUARES && left != 0; i++) {
                left &= ~reach(left & -left);
                found++;
            }
            return found;
        }
    }

    /** How BRIGHT all is. */
    private static final class Light {
        final int[] bright = new int[MOST_SQUARES];
        private final int[] taken = new int[MOST_CURTAINS];
        private final int[] toRight = new int[MOST_SQUARES];
        private final int[] toBelow = new int[MOST_SQUARES];

        void weigh(Scene scene, Laws laws, int curtains) {
            for (int c = 0; c < scene.room.curtains; c++) {
                if (has(curtains, c)) {
                    taken[c] = laws.takes(scene, c);
                }
            }
        }

        void hang(Room room, int hung) {
            Arrays.fill(toRight, 1);
            Arrays.fill(toBelow, 1);
            for (int c = 0; c < room.curtains; c++) {
                if (!has(hung, c)) {
                    continue;
                }
                if (room.rail[c] == 0) {
                    toRight[room.near[c]] += taken[c];
                } else {
                    toBelow[room.near[c]] += taken[c];
                }
            }
        }

        void spread(Room room, int from, int n) {
            Arrays.fill(bright, 0);
            if (!within(from, 0, room.squares - 1)) {
                return;
            }
            bright[from] = n;
            // No way needs more steps than there are SQUARES.
            for (int pass = 0; pass < room.squares; pass++) {
                if (!carry(room)) {
                    break;
                }
            }
        }

        private boolean carry(Room room) {
            boolean changed = false;
            for (int square = 0; square < room.squares; square++) {
                if (has(room.wide, square)) {
                    changed |= pass(square, square + 1, toRight[square]);
                }
                if (has(room.deep, square)) {
                    changed |= pass(square, square + room.width, toBelow[square]);
                }
            }
            return changed;
        }

        private boolean pass(int one, int other, int less) {
            if (bright[one] - less > bright[other]) {
                bright[other] = bright[one] - less;
                return true;
            }
            if (bright[other] - less > bright[one]) {
                bright[one] = bright[other] - less;
                return true;
            }
            return false;
        }

        int sum(int squares) {
            int all = 0;
            for (int square = 0; square < squares; square++) {
                all += bright[square];
            }
            return all;
        }

        int darkness(int squares) {
            int found = 0;
            for (int square = 0; square < squares; square++) {
                if (bright[square] == 0) {
                    found |= 1 << square;
                }
            }
            return found;
        }
    }

    /** What two PERSONS have by each pair of draws. */
    private static final class Table {
        private static final int MOST_DRAWS = MOST_CURTAINS + 1;
        private int draws = 0;
        private final int[] one = new int[MOST_DRAWS * MOST_DRAWS];
        private final int[] other = new int[MOST_DRAWS * MOST_DRAWS];

        void lay(int count) {
            draws = Math.min(count, MOST_DRAWS);
        }

        void put(int x, int y, int ofOne, int ofOther) {
            if (within(x, 0, draws - 1) && within(y, 0, draws - 1)) {
                one[x * MOST_DRAWS + y] = ofOne;
                other[x * MOST_DRAWS + y] = ofOther;
            }
        }

        boolean restsAt(int x, int y) {
            if (!within(x, 0, draws - 1) || !within(y, 0, draws - 1)) {
                return false;
            }
            int at = x * MOST_DRAWS + y;
            for (int otherwise = 0; otherwise < draws; otherwise++) {
                if (one[otherwise * MOST_DRAWS + y] > one[at] || other[x * MOST_DRAWS + otherwise] > other[at]) {
                    return false;
                }
            }
            return true;
        }
    }
}
