import java.util.Arrays;

/** Minutes of a sitting, told, searched and judged, as ../shared/DOC.md promises. */
public final class MinuteBook {
    public static final int NONE = -1;

    private static final int NO_SUCH = -2;
    private static final int CANNOT_BE = -3;
    private static final int TOO_MANY = -4;
    private static final int NOT_NOW = -5;
    private static final int TRAY_MISSING = -6;
    private static final int NO_SUCH_NUMBER = -7;
    private static final int WHY_NOT = -10;
    private static final int TEXT_FAULT = -30;
    private static final int NO_SUCH_SAYING = -99000002;

    private static final int TAPE_PLACES = 900;
    private static final int FED_BYTES = 20;
    private static final int MOST_MEMBERS = 6;
    private static final int MOST_SAYINGS = 8;
    private static final int HIGHEST = 9;
    private static final int CERTAIN = 10;
    private static final int MOST_UNDONE = 10;
    private static final int TRAYS = 4;
    private static final int SORTS = 4;
    private static final int TRAY_PLACES = 40;
    private static final int IMAGES = 2;
    private static final int MOST_TOLD = 12;
    private static final int MOST_LOST = 10;
    private static final int MOST_ROWS = 10;
    private static final int MOST_TIMES = 40;
    private static final int MOST_STRUCK = 16;
    /* More than any search can find. */
    private static final int ENDLESS = 1000000;
    private static final int CALM_LEAST = 10;
    private static final int CALM_MOST = 29;

    private static final int WHY_NO_SUCH = 1;
    private static final int WHY_BAULKS = 2;

    /* By the stroke told: how likely a minute passes without one, in lowest terms; so its powers are, too. */
    private static final int[] PASSES_ABOVE = {1, 9, 4, 7, 3, 1, 2, 3, 1, 1, 0};
    private static final int[] PASSES_BELOW = {1, 10, 5, 10, 5, 2, 5, 10, 5, 10, 1};

    /* A state is TONE, HEAT and who spoke last in one number, so that rows of states can be searched. */
    private static final int NOBODY = MOST_MEMBERS;
    private static final int LASTS = MOST_MEMBERS + 1;
    private static final int MOODS = 100;
    private static final int STATES = MOODS * LASTS;
    private static final int LAW_NOBODY = 9;

    /* A set of minutes has the bit 8 * member + saying for each of them. */
    private static final long ALL_MINUTES = (1L << (MOST_MEMBERS * MOST_SAYINGS)) - 1;
    private static final long EACH_MEMBER = 0x010101010101L;
    private static final int ALL_SAYINGS = (1 << MOST_SAYINGS) - 1;
    private static final int ANY_MARK = (1 << (HIGHEST + 1)) - 1;
    /* A tone that no state has: a search for it comes to every state that can be reached. */
    private static final int NO_TONE = HIGHEST + 1;

    /* Law code: 0 to 999 is that number itself, the rest is below 0. */
    private static final int ASK_TONE = -1;
    private static final int ASK_HEAT = -2;
    private static final int ASK_LAST = -3;
    private static final int ASK_WHO = -4;
    private static final int ASK_MARK = -5;
    private static final int ASK_SAYING = -6;
    private static final int ASKED = 6;
    private static final int PLUS = -7;
    private static final int MINUS = -8;
    private static final int TIMES = -9;
    private static final int LIKE = -10;
    private static final int LESS = -11;
    private static final int MORE = -12;
    private static final int NOT = -13;
    private static final int AND = -14;
    private static final int OR = -15;
    private static final int NOTHING = -16;
    private static final int KEPT_WITHIN = 1000000;
    private static final int STACK_PLACES = 64;

    private final byte[] tape;
    private int taped;
    private Book told;
    private Book spare;
    private final Sitting sitting;
    private final Sitting trial;
    private final Pile pile;
    private final Tray[] trays;
    private final Image[] images;
    private final Reader reader;
    private final Scale scale;
    private final Moves moves;
    private final Ways ways;
    private final Layers layers;
    private final Game game;

    public MinuteBook() {
        tape = new byte[TAPE_PLACES];
        taped = 0;
        told = new Book();
        spare = new Book();
        sitting = new Sitting();
        trial = new Sitting();
        pile = new Pile();
        trays = new Tray[TRAYS];
        for (int i = 0; i < TRAYS; i++) {
            trays[i] = new Tray();
        }
        images = new Image[IMAGES];
        for (int i = 0; i < IMAGES; i++) {
            images[i] = new Image();
        }
        reader = new Reader(tape, spare);
        scale = new Scale();
        moves = new Moves(told, scale);
        ways = new Ways(moves);
        layers = new Layers(moves);
        game = new Game(moves, ways);
    }

    // ---- the book

    public int feed(int a, int b, int c, int d, int e) {
        if (taped + FED_BYTES > TAPE_PLACES) {
            return NOT_NOW;
        }
        tapeInt(a);
        tapeInt(b);
        tapeInt(c);
        tapeInt(d);
        tapeInt(e);
        return taped;
    }

    private void tapeInt(int four) {
        for (int shift = 24; shift >= 0; shift -= 8) {
            if (taped < TAPE_PLACES) {
                tape[taped] = (byte) (four >> shift);
                taped++;
            }
        }
    }

    public int book(int n) {
        if (n < 0 || n > taped) {
            return CANNOT_BE;
        }
        taped = 0;
        reader.readText(n, spare);
        if (reader.fault != 0) {
            return TEXT_FAULT - reader.fault;
        }
        Book former = told;
        told = spare;
        spare = former;
        sitting.begin(told);
        pile.empty();
        moves.settle(told);
        return told.lines;
    }

    public int fault(int what) {
        switch (what) {
            case 0:
                return reader.fault;
            case 1:
                return reader.faultPlace;
            default:
                return NONE;
        }
    }

    public int member(int m, int what) {
        if (!isMember(m)) {
            return NO_SUCH;
        }
        switch (what) {
            case 0:
                return sitting.marks[m];
            case 1:
                return sayingsOf(minutesNow(), m);
            case 2:
                return lastOf(sitting.state) == m ? 1 : 0;
            default:
                return NO_SUCH;
        }
    }

    public int saying(int s, int what) {
        if (!isSaying(s)) {
            return NO_SUCH_SAYING;
        }
        switch (what) {
            case 0:
                return told.toneTurns[s];
            case 1:
                return told.heatTurns[s];
            case 2:
                return membersOf(minutesNow() & sayingBits(s));
            default:
                return NO_SUCH_SAYING;
        }
    }

    public int closed() {
        return moves.closes(sitting.state) ? 1 : 0;
    }

    public int open() {
        return Long.bitCount(minutesNow());
    }

    // ---- deeds

    public int say(int m, int s) {
        trial.become(sitting);
        int why = trySaying(sitting, m, s);
        if (why != 0) {
            return WHY_NOT - why;
        }
        pile.add(trial);
        return moodShown(sitting.state);
    }

    public int mark(int m, int n) {
        trial.become(sitting);
        int why = tryMarking(sitting, m, n);
        if (why != 0 || !isMember(m)) {
            return WHY_NOT - WHY_NO_SUCH;
        }
        pile.add(trial);
        return trial.marks[m];
    }

    public int adjourn() {
        pile.add(sitting);
        int said = sitting.said;
        sitting.adjournTo(told);
        return said;
    }

    public int undo(int n) {
        if (n < 1 || n > pile.size) {
            return CANNOT_BE;
        }
        pile.takeBack(n, sitting);
        return pile.size;
    }

    public int judge(int tray, int what) {
        if (!isTray(tray) || what < 0 || what > 3) {
            return NO_SUCH;
        }
        Tray deeds = trays[tray];
        if (deeds.isMissing()) {
            return TRAY_MISSING;
        }
        trial.become(sitting);
        int done = tryDeeds(trial, deeds);
        switch (what) {
            case 0:
                return done < deeds.size ? done : NONE;
            case 1:
                return done < deeds.size ? tryDeed(trial, deeds.at(done)) : 0;
            case 2:
                return moodShown(trial.state);
            default:
                return moves.closes(trial.state) ? 1 : 0;
        }
    }

    public int perform(int tray) {
        int refused = refusedTray(tray);
        if (refused != 0) {
            return refused;
        }
        trial.become(sitting);
        int done = tryDeeds(sitting, trays[tray]);
        if (done > 0) {
            pile.add(trial);
        }
        return done;
    }

    public int monday(int seed, int times) {
        if (times < 1 || times > MOST_TIMES) {
            return CANNOT_BE;
        }
        trial.become(sitting);
        int done = 0;
        int x = seed;
        for (int i = 0; i < times; i++) {
            x = drawn(x);
            int kind = (x >>> 16) % 6;
            int deed = NONE;
            if (kind < 5) {
                x = drawn(x);
                int m = (x >>> 16) % MOST_MEMBERS;
                x = drawn(x);
                int second = x >>> 16;
                deed = kind < 4 ? 10 * m + second % MOST_SAYINGS : 100 + 10 * m + second % 10;
            }
            if (tryDeed(sitting, deed) == 0) {
                done++;
            }
        }
        if (done > 0) {
            pile.add(trial);
        }
        return done;
    }

    private static int drawn(int x) {
        return 1103515245 * x + 12345;
    }

    /** How many deeds were done, till one can't be. */
    private int tryDeeds(Sitting on, Tray deeds) {
        for (int i = 0; i < deeds.size; i++) {
            if (tryDeed(on, deeds.at(i)) != 0) {
                return i;
            }
        }
        return deeds.size;
    }

    /** Does the deed and answers 0, or leaves all as it is and answers why not. */
    private int tryDeed(Sitting on, long deed) {
        if (deed == NONE) {
            on.adjournTo(told);
            return 0;
        }
        if (deed < 0 || deed > 199) {
            return WHY_NO_SUCH;
        }
        int v = (int) deed;
        return v < 100 ? trySaying(on, v / 10, v % 10) : tryMarking(on, (v - 100) / 10, v % 10);
    }

    private int trySaying(Sitting on, int m, int s) {
        if (!isMember(m) || !isSaying(s)) {
            return WHY_NO_SUCH;
        }
        if (!scale.wouldSay(told, on.state, m, on.marks[m], s)) {
            return WHY_BAULKS;
        }
        on.state = moves.behind(on.state, m, s);
        on.said++;
        return 0;
    }

    private int tryMarking(Sitting on, int m, int n) {
        if (!isMember(m) || n < 0 || n > HIGHEST) {
            return WHY_NO_SUCH;
        }
        on.marks[m] = n;
        return 0;
    }

    // ---- minutes

    public int shortest(int tone) {
        return isTone(tone) ? shortestBy(tone, ALL_MINUTES) : CANNOT_BE;
    }

    public int minute(int tone, int i) {
        if (!isTone(tone) || i < 0) {
            return CANNOT_BE;
        }
        shortestBy(tone, ALL_MINUTES);
        return ways.minuteAt(i);
    }

    public long rows(int tone, int n) {
        if (!isTone(tone) || n < 0 || n > MOST_ROWS) {
            return CANNOT_BE;
        }
        layers.tellSize(n);
        for (int i = 0; i < n; i++) {
            layers.tell(i, NONE);
        }
        moves.heed(sitting.marks);
        return layers.countRows(sitting.state, tone);
    }

    public int without(int m, int tone) {
        if (!isMember(m)) {
            return NO_SUCH;
        }
        return isTone(tone) ? shortestBy(tone, ~memberBits(m)) : CANNOT_BE;
    }

    public int needed(int tone) {
        if (!isTone(tone)) {
            return CANNOT_BE;
        }
        int bits = 0;
        if (shortestBy(tone, ALL_MINUTES) != NONE) {
            for (int m = 0; m < told.members; m++) {
                if (shortestBy(tone, ~memberBits(m)) == NONE) {
                    bits |= 1 << m;
                }
            }
        }
        return bits;
    }

    public int full(int tone) {
        return isTone(tone) ? fullBy(tone) : CANNOT_BE;
    }

    public int fullMinute(int tone, int i) {
        if (!isTone(tone) || i < 0) {
            return CANNOT_BE;
        }
        fullBy(tone);
        return ways.minuteAt(i);
    }

    public int tones() {
        exploreAll();
        int bits = 0;
        for (int i = 0; i < ways.size; i++) {
            int state = ways.stateAt(i);
            if (moves.closes(state)) {
                bits |= 1 << toneOf(state);
            }
        }
        return bits;
    }

    public int calmest(int tone, int what) {
        boolean asksMinute = what >= CALM_LEAST && what <= CALM_MOST;
        if (what != 0 && what != 1 && !asksMinute) {
            return NO_SUCH;
        }
        if (!isTone(tone)) {
            return CANNOT_BE;
        }
        int heat = calmestHeat(tone);
        if (heat == NONE || what == 0) {
            return heat;
        }
        return asksMinute ? ways.minuteAt(what - CALM_LEAST) : ways.length;
    }

    /** The least greatest heat of all ways to an end; the calmest way is the one that was found last. */
    private int calmestHeat(int tone) {
        moves.heed(sitting.marks);
        for (int heat = heatOf(sitting.state); heat <= HIGHEST; heat++) {
            if (ways.find(sitting.state, tone, ALL_MINUTES, heat, 0) != NONE) {
                return heat;
            }
        }
        return NONE;
    }

    public int keyword() {
        int now = shortestBy(NONE, ALL_MINUTES);
        int found = NONE;
        if (now != NONE) {
            int longest = now;
            for (int s = 0; s < told.sayings; s++) {
                int length = shortestBy(NONE, ~sayingBits(s));
                if (length == NONE) {
                    length = ENDLESS;
                }
                if (length > longest) {
                    longest = length;
                    found = s;
                }
            }
        }
        return found;
    }

    private int shortestBy(int tone, long use) {
        moves.heed(sitting.marks);
        return ways.find(sitting.state, tone, use, HIGHEST, 0);
    }

    private int fullBy(int tone) {
        moves.heed(sitting.marks);
        return ways.find(sitting.state, tone, ALL_MINUTES, HIGHEST, (1 << told.members) - 1);
    }

    /** Brings the search to every state that can be reached. */
    private void exploreAll() {
        moves.heed(sitting.marks);
        ways.find(sitting.state, NO_TONE, ALL_MINUTES, HIGHEST, 0);
    }

    // ---- errata

    public int baulk(int tray) {
        int refused = refusedMinutes(tray);
        if (refused != 0) {
            return refused;
        }
        moves.heed(sitting.marks);
        return layers.firstBaulk(sitting.state);
    }

    public int errata(int tray, int tone) {
        int refused = refusedErrata(tray, tone, 0);
        if (refused != 0) {
            return refused;
        }
        return weighErrata(tone);
    }

    public int right(int tray, int tone, int i) {
        int refused = refusedErrata(tray, tone, i);
        if (refused != 0) {
            return refused;
        }
        return weighErrata(tone) == NONE ? NONE : layers.rightMinute(i);
    }

    public int back(int tray, int tone) {
        int refused = refusedErrata(tray, tone, 0);
        if (refused != 0) {
            return refused;
        }
        return weighErrata(tone) == NONE ? NONE : layers.longestKept();
    }

    private int weighErrata(int tone) {
        moves.heed(sitting.marks);
        return layers.weigh(sitting.state, tone, false);
    }

    private int refusedErrata(int tray, int tone, int i) {
        int refused = refusedMinutes(tray);
        if (refused == 0 && (!isTone(tone) || i < 0)) {
            refused = CANNOT_BE;
        }
        return refused;
    }

    // ---- lost lines

    public long lost(int tray) {
        int refused = refusedLost(tray);
        if (refused != 0) {
            return refused;
        }
        moves.heed(sitting.marks);
        return layers.countRows(sitting.state, NONE);
    }

    public int sureMinute(int tray, int place) {
        int refused = refusedPlace(tray, place);
        if (refused != 0) {
            return refused;
        }
        long minutes = minutesThatFit(place);
        return Long.bitCount(minutes) == 1 ? firstMinute(minutes) : NONE;
    }

    public int speakers(int tray, int place) {
        int refused = refusedPlace(tray, place);
        if (refused != 0) {
            return refused;
        }
        return membersOf(minutesThatFit(place));
    }

    private long minutesThatFit(int place) {
        moves.heed(sitting.marks);
        layers.weigh(sitting.state, NONE, true);
        return layers.minutesThatFit(place);
    }

    private int refusedLost(int tray) {
        int refused = refusedTray(tray);
        return refused != 0 ? refused : refusedNumbers(tray, MOST_LOST, true);
    }

    private int refusedPlace(int tray, int place) {
        int refused = refusedLost(tray);
        if (refused == 0 && (place < 0 || place >= layers.size)) {
            refused = NO_SUCH_NUMBER;
        }
        return refused;
    }

    // ---- marks

    public int kept(int tray, int m) {
        int refused = refusedKept(tray, m);
        return refused != 0 ? refused : marksKept(m);
    }

    public int attempt(int tray, int m) {
        int refused = refusedKept(tray, m);
        if (refused != 0) {
            return refused;
        }
        int marks = marksKept(m);
        int found = NONE;
        int most = -1;
        if (marks != 0) {
            for (int s = 0; s < told.sayings; s++) {
                int would = Integer.bitCount(marks & marksThatWould(sitting.state, m, s));
                int lesser = Math.min(would, Integer.bitCount(marks) - would);
                if (lesser > most) {
                    most = lesser;
                    found = s;
                }
            }
        }
        return found;
    }

    private int refusedKept(int tray, int m) {
        return isMember(m) ? refusedMinutes(tray) : NO_SUCH;
    }

    private int marksKept(int m) {
        int marks = ANY_MARK;
        int state = sitting.state;
        for (int i = 0; i < layers.size; i++) {
            int minute = layers.told[i];
            int s = minute % 10;
            if (minute / 10 == m) {
                marks &= marksThatWould(state, m, s);
            }
            state = moves.behind(state, minute / 10, s);
        }
        return marks;
    }

    private int marksThatWould(int state, int m, int s) {
        int bits = 0;
        for (int mark = 0; mark <= HIGHEST; mark++) {
            if (scale.wouldSay(told, state, m, mark, s)) {
                bits |= 1 << mark;
            }
        }
        return bits;
    }

    // ---- two secretaries, strokes

    public int forces(int tone) {
        return isTone(tone) ? forcedBy(tone) : CANNOT_BE;
    }

    public int best(int tone) {
        if (!isTone(tone)) {
            return CANNOT_BE;
        }
        int within = forcedBy(tone);
        return within > 0 ? game.firstForcing(sitting.state, within) : NONE;
    }

    public int power() {
        int bits = 0;
        for (int tone = 0; tone <= HIGHEST; tone++) {
            if (forcedBy(tone) != NONE) {
                bits |= 1 << tone;
            }
        }
        return bits;
    }

    private int forcedBy(int tone) {
        moves.heed(sitting.marks);
        return game.forcedWithin(sitting.state, tone);
    }

    public long stroke(int tone, int what) {
        if (what != 0 && what != 1) {
            return NO_SUCH;
        }
        if (!isTone(tone)) {
            return CANNOT_BE;
        }
        int length = shortestBy(tone, ALL_MINUTES);
        if (length > MOST_STRUCK) {
            return TOO_MANY;
        }
        if (length == NONE) {
            return NONE;
        }
        int part = what == 0 ? PASSES_ABOVE[told.stroke] : PASSES_BELOW[told.stroke];
        long power = 1;
        for (int i = 1; i < length; i++) {
            power *= part;
        }
        return power;
    }

    public int likeliest() {
        exploreAll();
        int found = NONE;
        int least = ENDLESS;
        for (int tone = 0; tone <= HIGHEST; tone++) {
            int length = ways.firstLength(tone);
            if (length != NONE && strokesThatCount(length) < least) {
                least = strokesThatCount(length);
                found = tone;
            }
        }
        return found;
    }

    /** Powers of one part compare as their exponents do, but powers of 1 are all alike, and so are those of 0. */
    private int strokesThatCount(int length) {
        int strokes = Math.max(length - 1, 0);
        if (told.stroke == 0) {
            strokes = 0;
        }
        return told.stroke == CERTAIN ? Math.min(strokes, 1) : strokes;
    }

    // ---- trays, images

    public int numbers(int tray, int sort, int n) {
        if (!isTray(tray) || sort < 0 || sort >= SORTS) {
            return NO_SUCH;
        }
        if (n < 0 || n > TRAY_PLACES) {
            return CANNOT_BE;
        }
        trays[tray].lay(sort, n);
        return 0;
    }

    public long write(int tray, int i, long v) {
        int refused = refusedTray(tray);
        if (refused != 0) {
            return refused;
        }
        if (i < 0 || i >= trays[tray].size) {
            return NO_SUCH_NUMBER;
        }
        return trays[tray].put(i, v);
    }

    public int lists(int tray, int tone) {
        int refused = refusedTray(tray);
        if (refused != 0) {
            return refused;
        }
        if (!isTone(tone)) {
            return CANNOT_BE;
        }
        int length = shortestBy(tone, ALL_MINUTES);
        if (length == NONE) {
            return NOT_NOW;
        }
        int fit = Math.min(length, trays[tray].size);
        for (int i = 0; i < fit; i++) {
            trays[tray].put(i, ways.minuteAt(i));
        }
        return fit;
    }

    public int image(int i) {
        if (i < 0 || i >= IMAGES) {
            return NO_SUCH;
        }
        images[i].keep(told, sitting);
        return 0;
    }

    public int restore(int i) {
        if (i < 0 || i >= IMAGES) {
            return NO_SUCH;
        }
        if (!images[i].made) {
            return NOT_NOW;
        }
        told.become(images[i].told);
        sitting.become(images[i].sitting);
        pile.empty();
        moves.settle(told);
        return 0;
    }

    public int count(int what) {
        switch (what) {
            case 0:
                return toneOf(sitting.state);
            case 1:
                return heatOf(sitting.state);
            case 2:
                return lastOf(sitting.state) == NOBODY ? NONE : lastOf(sitting.state);
            case 3:
                return told.members;
            case 4:
                return told.sayings;
            case 5:
                return sitting.said;
            case 6:
                return marksTogether();
            case 7:
                return pile.size;
            case 8:
                return taped;
            case 9:
                return told.lines;
            default:
                return NONE;
        }
    }

    private int marksTogether() {
        int sum = 0;
        for (int m = 0; m < told.members; m++) {
            sum += sitting.marks[m];
        }
        return sum;
    }

    // ---- what a call tells, looked at

    private boolean isMember(int m) {
        return m >= 0 && m < told.members;
    }

    private boolean isSaying(int s) {
        return s >= 0 && s < told.sayings;
    }

    private static boolean isTone(int tone) {
        return tone >= NONE && tone <= HIGHEST;
    }

    private static boolean isTray(int tray) {
        return tray >= 0 && tray < TRAYS;
    }

    private int refusedTray(int tray) {
        if (!isTray(tray)) {
            return NO_SUCH;
        }
        return trays[tray].isMissing() ? TRAY_MISSING : 0;
    }

    private int refusedMinutes(int tray) {
        int refused = refusedTray(tray);
        return refused != 0 ? refused : refusedNumbers(tray, MOST_TOLD, false);
    }

    /** The numbers of a tray that is there become the row that is told; a code if they can't. */
    private int refusedNumbers(int tray, int most, boolean mayBeLost) {
        Tray numbers = trays[tray];
        if (numbers.size < 1 || numbers.size > most) {
            return TOO_MANY;
        }
        layers.tellSize(numbers.size);
        for (int i = 0; i < numbers.size; i++) {
            long v = numbers.at(i);
            if (!isMinute(v) && !(mayBeLost && v == NONE)) {
                return CANNOT_BE;
            }
            layers.tell(i, (int) v);
        }
        return 0;
    }

    private boolean isMinute(long v) {
        return v >= 0 && v < 10 * MOST_MEMBERS && isMember((int) v / 10) && isSaying((int) v % 10);
    }

    // ---- states and sets of minutes

    private long minutesNow() {
        moves.heed(sitting.marks);
        return moves.minutesAt(sitting.state);
    }

    private static int stateOf(int tone, int heat, int last) {
        return (tone * 10 + heat) * LASTS + last;
    }

    private static int toneOf(int state) {
        return state / (10 * LASTS);
    }

    private static int heatOf(int state) {
        return state / LASTS % 10;
    }

    private static int lastOf(int state) {
        return state % LASTS;
    }

    private static int moodShown(int state) {
        return state / LASTS;
    }

    private static long memberBits(int m) {
        return (long) ALL_SAYINGS << (MOST_SAYINGS * m);
    }

    private static long sayingBits(int s) {
        return EACH_MEMBER << s;
    }

    private static long minuteBit(int m, int s) {
        return 1L << (MOST_SAYINGS * m + s);
    }

    private static int sayingsOf(long minutes, int m) {
        return (int) (minutes >>> (MOST_SAYINGS * m)) & ALL_SAYINGS;
    }

    private static int membersOf(long minutes) {
        int bits = 0;
        for (int m = 0; m < MOST_MEMBERS; m++) {
            if (sayingsOf(minutes, m) != 0) {
                bits |= 1 << m;
            }
        }
        return bits;
    }

    private static int firstMinute(long minutes) {
        for (int m = 0; m < MOST_MEMBERS; m++) {
            for (int s = 0; s < MOST_SAYINGS; s++) {
                if ((minutes & minuteBit(m, s)) != 0) {
                    return 10 * m + s;
                }
            }
        }
        return NONE;
    }

    /** What a text told. */
    private static final class Book {
        int tone;
        int heat;
        int members;
        int sayings;
        int stroke;
        int lines;
        int codeSize;
        /* A law is the code from its first place up to its end; if they are like, it was not told. */
        int wouldFrom;
        int wouldEnd;
        int closesFrom;
        int closesEnd;
        final int[] marks = new int[MOST_MEMBERS];
        final int[] toneTurns = new int[MOST_SAYINGS];
        final int[] heatTurns = new int[MOST_SAYINGS];
        /* Each token makes one code at most, so as many places as the tape has are enough. */
        final short[] code = new short[TAPE_PLACES];

        void clear() {
            tone = 0;
            heat = 0;
            members = 0;
            sayings = 0;
            stroke = 0;
            lines = 0;
            codeSize = 0;
            wouldFrom = 0;
            wouldEnd = 0;
            closesFrom = 0;
            closesEnd = 0;
            Arrays.fill(marks, 0);
            Arrays.fill(toneTurns, 0);
            Arrays.fill(heatTurns, 0);
        }

        void become(Book other) {
            tone = other.tone;
            heat = other.heat;
            members = other.members;
            sayings = other.sayings;
            stroke = other.stroke;
            lines = other.lines;
            codeSize = other.codeSize;
            wouldFrom = other.wouldFrom;
            wouldEnd = other.wouldEnd;
            closesFrom = other.closesFrom;
            closesEnd = other.closesEnd;
            System.arraycopy(other.marks, 0, marks, 0, MOST_MEMBERS);
            System.arraycopy(other.toneTurns, 0, toneTurns, 0, MOST_SAYINGS);
            System.arraycopy(other.heatTurns, 0, heatTurns, 0, MOST_SAYINGS);
            System.arraycopy(other.code, 0, code, 0, codeSize);
        }

        void addCode(int op) {
            if (codeSize < TAPE_PLACES) {
                code[codeSize] = (short) op;
                codeSize++;
            }
        }
    }

    /** What deeds change, and what is brought back when they are undone. */
    private static final class Sitting {
        int state = NOBODY;
        int said;
        final int[] marks = new int[MOST_MEMBERS];

        void begin(Book book) {
            adjournTo(book);
            System.arraycopy(book.marks, 0, marks, 0, MOST_MEMBERS);
        }

        void adjournTo(Book book) {
            state = stateOf(book.tone, book.heat, NOBODY);
            said = 0;
        }

        void become(Sitting other) {
            state = other.state;
            said = other.said;
            System.arraycopy(other.marks, 0, marks, 0, MOST_MEMBERS);
        }
    }

    /** The sittings ahead of the latest calls that did some deeds, as a ring. */
    private static final class Pile {
        final Sitting[] ring = new Sitting[MOST_UNDONE];
        int eldest;
        int size;

        Pile() {
            for (int i = 0; i < MOST_UNDONE; i++) {
                ring[i] = new Sitting();
            }
        }

        void empty() {
            size = 0;
        }

        void add(Sitting ahead) {
            if (size == MOST_UNDONE) {
                eldest = (eldest + 1) % MOST_UNDONE;
                size--;
            }
            ring[(eldest + size) % MOST_UNDONE].become(ahead);
            size++;
        }

        void takeBack(int calls, Sitting into) {
            if (calls >= 1 && calls <= size) {
                size -= calls;
                into.become(ring[(eldest + size) % MOST_UNDONE]);
            }
        }
    }

    private static final class Tray {
        final long[] values = new long[TRAY_PLACES];
        int size = NONE;
        int bits;

        boolean isMissing() {
            return size == NONE;
        }

        void lay(int sort, int n) {
            bits = 8 << sort;
            size = n;
            Arrays.fill(values, 0L);
        }

        long at(int i) {
            return i >= 0 && i < size ? values[i] : 0;
        }

        long put(int i, long v) {
            if (i < 0 || i >= size) {
                return 0;
            }
            int cut = 64 - bits;
            values[i] = v << cut >> cut;
            return values[i];
        }
    }

    private static final class Image {
        boolean made;
        final Book told = new Book();
        final Sitting sitting = new Sitting();

        void keep(Book book, Sitting now) {
            told.become(book);
            sitting.become(now);
            made = true;
        }
    }

    /** Reads a text into a book, up to its first fault: its tokens are laid out first, then each is taken in its turn. */
    private static final class Reader {
        static final int NO_TOKEN = 1;
        static final int CANNOT_STAND = 2;
        static final int OUT_OF_BOUNDS = 3;
        static final int ONE_TOO_MANY = 4;
        static final int MOST_DIGITS = 3;
        static final int MOST_WITHIN = 6;
        static final String SIGNS = ";:+-*()[]=<>";
        /* Kinds of tokens: a sign is its own number, a word FIRST_WORD and its number here, N is FIRST_NUMBER and N. */
        static final String WORDS = "book tone heat member mark saying up down warm cool would closes stroke or and not last who ";
        static final int FIRST_WORD = 128;
        static final int BOOK = 128;
        static final int TONE = 129;
        static final int HEAT = 130;
        static final int MEMBER = 131;
        static final int MARK = 132;
        static final int SAYING = 133;
        static final int UP = 134;
        static final int DOWN = 135;
        static final int WARM = 136;
        static final int COOL = 137;
        static final int WOULD = 138;
        static final int CLOSES = 139;
        static final int STROKE = 140;
        static final int OR_WORD = 141;
        static final int AND_WORD = 142;
        static final int NOT_WORD = 143;
        static final int LAST = 144;
        static final int WHO = 145;
        static final int OTHER_WORD = 200;
        static final int END = 201;
        static final int BAD = 202;
        /* Behind a fault: it stands nowhere, so that all that still reads comes to its end. */
        static final int STOPPED = 203;
        static final int FIRST_NUMBER = 1000;

        int fault;
        int faultPlace = NONE;
        private final byte[] text;
        private final int[] kinds = new int[TAPE_PLACES + 1];
        private final int[] places = new int[TAPE_PLACES + 1];
        private int tokens;
        private int at;
        private int token;
        private boolean ofMembers;
        private Book into;

        Reader(byte[] text, Book into) {
            this.text = text;
            this.into = into;
        }

        void readText(int length, Book book) {
            fault = 0;
            faultPlace = NONE;
            into = book;
            into.clear();
            layTokens(Math.min(length, text.length));
            at = 0;
            token = kinds[0];
            readFirstLine();
            for (int i = 0; i < tokens && token != END && token != STOPPED; i++) {
                readLine();
            }
        }

        /** Lays out all tokens up to the end, or up to one that is bad; either is the last one laid out. */
        private void layTokens(int length) {
            tokens = 0;
            int kind = OTHER_WORD;
            int next = 0;
            for (int i = 0; i <= length && kind != END && kind != BAD; i++) {
                while (next < length && (text[next] == 10 || text[next] == 32)) {
                    next++;
                }
                int first = next < length ? text[next] : 0;
                int end = next;
                if (next >= length) {
                    kind = END;
                } else if (isLetter(first)) {
                    end = endOfWord(next, length);
                    kind = kindOfWord(next, end);
                } else if (isDigit(first)) {
                    end = endOfDigits(next, length);
                    kind = kindOfDigits(next, end);
                } else {
                    kind = first > 0 && SIGNS.indexOf((char) first) >= 0 ? first : BAD;
                    end++;
                }
                kinds[tokens] = kind;
                places[tokens] = next;
                tokens++;
                next = end;
            }
        }

        private int endOfWord(int begin, int length) {
            int end = begin;
            while (end < length && isLetter(text[end])) {
                end++;
            }
            return end;
        }

        private int kindOfWord(int begin, int end) {
            int number = 0;
            int from = 0;
            for (int i = 0; i < WORDS.length(); i++) {
                if (WORDS.charAt(i) == ' ') {
                    if (i - from == end - begin && isWord(from, begin, end)) {
                        return FIRST_WORD + number;
                    }
                    number++;
                    from = i + 1;
                }
            }
            return OTHER_WORD;
        }

        private boolean isWord(int from, int begin, int end) {
            for (int i = begin; i < end; i++) {
                if (text[i] != WORDS.charAt(from + i - begin)) {
                    return false;
                }
            }
            return true;
        }

        private int endOfDigits(int begin, int length) {
            int end = begin;
            while (end < length && isDigit(text[end])) {
                end++;
            }
            return end;
        }

        private int kindOfDigits(int begin, int end) {
            if (end - begin > MOST_DIGITS) {
                return BAD;
            }
            int value = 0;
            for (int i = begin; i < end; i++) {
                value = value * 10 + text[i] - '0';
            }
            return FIRST_NUMBER + value;
        }

        private static boolean isLetter(int c) {
            return c >= 'a' && c <= 'z';
        }

        private static boolean isDigit(int c) {
            return c >= '0' && c <= '9';
        }

        private void step() {
            if (token != STOPPED && at + 1 < tokens) {
                at++;
                token = kinds[at];
            }
        }

        private void fail(int kind) {
            if (fault == 0) {
                fault = token == BAD ? NO_TOKEN : kind;
                faultPlace = places[at];
            }
            token = STOPPED;
        }

        private void take(int wanted) {
            if (token == wanted) {
                step();
            } else {
                fail(CANNOT_STAND);
            }
        }

        private int takeNumber(int most) {
            int value = token - FIRST_NUMBER;
            if (value < 0) {
                fail(CANNOT_STAND);
                return 0;
            }
            if (value > most) {
                fail(OUT_OF_BOUNDS);
                return 0;
            }
            step();
            return value;
        }

        private void readFirstLine() {
            take(BOOK);
            take(TONE);
            into.tone = takeNumber(HIGHEST);
            take(HEAT);
            into.heat = takeNumber(HIGHEST);
            endLine();
        }

        private void readLine() {
            switch (token) {
                case MEMBER:
                    readMember();
                    break;
                case SAYING:
                    readSaying();
                    break;
                case WOULD:
                    into.wouldFrom = into.codeSize;
                    readLaw(true);
                    into.wouldEnd = into.codeSize;
                    break;
                case CLOSES:
                    into.closesFrom = into.codeSize;
                    readLaw(false);
                    into.closesEnd = into.codeSize;
                    break;
                case STROKE:
                    step();
                    into.stroke = takeNumber(CERTAIN);
                    break;
                default:
                    fail(CANNOT_STAND);
            }
            endLine();
        }

        private void endLine() {
            take(';');
            into.lines++;
        }

        private void readMember() {
            int m = into.members;
            if (m >= MOST_MEMBERS) {
                fail(ONE_TOO_MANY);
                return;
            }
            into.members++;
            step();
            for (int i = 0; i < tokens && token == MARK; i++) {
                step();
                into.marks[m] = takeNumber(HIGHEST);
            }
        }

        private void readSaying() {
            int s = into.sayings;
            if (s >= MOST_SAYINGS) {
                fail(ONE_TOO_MANY);
                return;
            }
            into.sayings++;
            step();
            for (int i = 0; i < tokens && token >= UP && token <= COOL; i++) {
                int turn = token;
                step();
                int by = takeNumber(HIGHEST);
                if (turn == UP || turn == DOWN) {
                    into.toneTurns[s] = turn == UP ? by : -by;
                } else {
                    into.heatTurns[s] = turn == WARM ? by : -by;
                }
            }
        }

        private void readLaw(boolean would) {
            ofMembers = would;
            step();
            take(':');
            readTruth(0);
        }

        /** Within: how many of not [ ( stand around it. */
        private void readTruth(int within) {
            readBoth(within);
            for (int i = 0; i < tokens && token == OR_WORD; i++) {
                step();
                readBoth(within);
                into.addCode(OR);
            }
        }

        private void readBoth(int within) {
            readUnit(within);
            for (int i = 0; i < tokens && token == AND_WORD; i++) {
                step();
                readUnit(within);
                into.addCode(AND);
            }
        }

        private void readUnit(int within) {
            if (token == NOT_WORD) {
                if (goesWithin(within)) {
                    readUnit(within + 1);
                    into.addCode(NOT);
                }
            } else if (token == '[') {
                if (goesWithin(within)) {
                    readTruth(within + 1);
                    take(']');
                }
            } else {
                readSum(within);
                int sign = token;
                if (sign == '=' || sign == '<' || sign == '>') {
                    step();
                    readSum(within);
                    into.addCode(sign == '=' ? LIKE : sign == '<' ? LESS : MORE);
                } else {
                    fail(CANNOT_STAND);
                }
            }
        }

        private boolean goesWithin(int within) {
            if (within >= MOST_WITHIN) {
                fail(ONE_TOO_MANY);
                return false;
            }
            step();
            return true;
        }

        private void readSum(int within) {
            readTerm(within);
            for (int i = 0; i < tokens && (token == '+' || token == '-'); i++) {
                int sign = token;
                step();
                readTerm(within);
                into.addCode(sign == '+' ? PLUS : MINUS);
            }
        }

        private void readTerm(int within) {
            readAtom(within);
            for (int i = 0; i < tokens && token == '*'; i++) {
                step();
                readAtom(within);
                into.addCode(TIMES);
            }
        }

        private void readAtom(int within) {
            if (token == '(') {
                if (goesWithin(within)) {
                    readSum(within + 1);
                    take(')');
                }
                return;
            }
            int code = token >= FIRST_NUMBER ? token - FIRST_NUMBER : askedBy(token);
            if (code == NOTHING) {
                fail(CANNOT_STAND);
                return;
            }
            into.addCode(code);
            step();
        }

        /** The code of a word that asks something in this law; NOTHING, if it doesn't. */
        private int askedBy(int word) {
            switch (word) {
                case TONE:
                    return ASK_TONE;
                case HEAT:
                    return ASK_HEAT;
                case LAST:
                    return ASK_LAST;
                case WHO:
                    return ofMembers ? ASK_WHO : NOTHING;
                case MARK:
                    return ofMembers ? ASK_MARK : NOTHING;
                case SAYING:
                    return ofMembers ? ASK_SAYING : NOTHING;
                default:
                    return NOTHING;
            }
        }
    }

    /** Weighs the laws of a book. */
    private static final class Scale {
        final int[] stack = new int[STACK_PLACES];
        /* What a law can ask of, by its code: that of ASK_TONE is at 0, and so on. */
        final int[] asked = new int[ASKED];

        boolean wouldSay(Book book, int state, int who, int mark, int saying) {
            if (book.wouldFrom == book.wouldEnd) {
                return true;
            }
            asked[0] = toneOf(state);
            asked[1] = heatOf(state);
            asked[2] = lastInLaw(state);
            asked[3] = who;
            asked[4] = mark;
            asked[5] = saying;
            return holds(book, book.wouldFrom, book.wouldEnd);
        }

        boolean closesAt(Book book, int state) {
            if (book.closesFrom == book.closesEnd) {
                return heatOf(state) == 0;
            }
            asked[0] = toneOf(state);
            asked[1] = heatOf(state);
            asked[2] = lastInLaw(state);
            return holds(book, book.closesFrom, book.closesEnd);
        }

        private static int lastInLaw(int state) {
            int last = state % LASTS;
            return last == NOBODY ? LAW_NOBODY : last;
        }

        private boolean holds(Book book, int from, int end) {
            int top = 0;
            for (int i = from; i < end; i++) {
                int op = book.code[i];
                if (op >= -ASKED && top < STACK_PLACES) {
                    stack[top] = op >= 0 ? op : asked[-1 - op];
                    top++;
                } else if (op == NOT && top >= 1) {
                    stack[top - 1] = 1 - stack[top - 1];
                } else if (top >= 2) {
                    top--;
                    int a = stack[top - 1];
                    int b = stack[top];
                    long v;
                    switch (op) {
                        case PLUS:
                            v = a + b;
                            break;
                        case MINUS:
                            v = a - b;
                            break;
                        case TIMES:
                            v = (long) a * b;
                            break;
                        case LIKE:
                            v = a == b ? 1 : 0;
                            break;
                        case LESS:
                            v = a < b ? 1 : 0;
                            break;
                        case MORE:
                            v = a > b ? 1 : 0;
                            break;
                        case AND:
                            v = a & b;
                            break;
                        default:
                            v = a | b;
                    }
                    stack[top - 1] = v > KEPT_WITHIN ? KEPT_WITHIN : v < -KEPT_WITHIN ? -KEPT_WITHIN : (int) v;
                }
            }
            return stack[0] != 0;
        }
    }

    /** Which minutes nobody baulks at in a state and where they lead, worked out once as long as book and marks stay. */
    private static final class Moves {
        static final long KNOWN = 1L << 62;
        static final int UNKNOWN = 0;
        static final int STAYS_OPEN = 1;
        static final int CLOSES = 2;

        Book book;
        final Scale scale;
        final int[] marks = new int[MOST_MEMBERS];
        final long[] minutes = new long[STATES];
        final byte[] closing = new byte[STATES];
        /* The state behind a saying in a mood, the speaker's number to be added. */
        final int[] turned = new int[MOST_SAYINGS * MOODS];
        boolean asksLast;
        /* How often what was worked out was forgotten: by it a search knows whether its answer still stands. */
        int version;
        /* What branch() laid out. */
        final int[] branchMinutes = new int[MOST_MEMBERS * MOST_SAYINGS];
        final int[] branchStates = new int[MOST_MEMBERS * MOST_SAYINGS];

        Moves(Book first, Scale scale) {
            this.book = first;
            this.scale = scale;
        }

        void settle(Book now) {
            book = now;
            asksLast = false;
            for (int i = book.wouldFrom; i < book.wouldEnd; i++) {
                asksLast |= book.code[i] == ASK_LAST;
            }
            for (int s = 0; s < book.sayings; s++) {
                for (int mood = 0; mood < MOODS; mood++) {
                    int tone = within(mood / 10 + book.toneTurns[s]);
                    int heat = within(mood % 10 + book.heatTurns[s]);
                    turned[s * MOODS + mood] = stateOf(tone, heat, 0);
                }
            }
            Arrays.fill(minutes, 0L);
            Arrays.fill(closing, (byte) UNKNOWN);
            version++;
        }

        private static int within(int v) {
            return Math.max(0, Math.min(HIGHEST, v));
        }

        /** To be called ahead of minutesAt: what was worked out by other marks is forgotten. */
        void heed(int[] now) {
            boolean like = true;
            for (int m = 0; m < book.members; m++) {
                like &= marks[m] == now[m];
                marks[m] = now[m];
            }
            if (!like) {
                Arrays.fill(minutes, 0L);
                version++;
            }
        }

        long minutesAt(int state) {
            // Where the law doesn't ask who spoke last, one answer serves all states of a mood.
            int key = asksLast ? state : state - lastOf(state);
            if (minutes[key] == 0) {
                long bits = KNOWN;
                for (int m = 0; m < book.members; m++) {
                    for (int s = 0; s < book.sayings; s++) {
                        if (scale.wouldSay(book, key, m, marks[m], s)) {
                            bits |= minuteBit(m, s);
                        }
                    }
                }
                minutes[key] = bits;
            }
            return minutes[key] & ALL_MINUTES;
        }

        boolean closes(int state) {
            if (closing[state] == UNKNOWN) {
                closing[state] = (byte) (scale.closesAt(book, state) ? CLOSES : STAYS_OPEN);
            }
            return closing[state] == CLOSES;
        }

        boolean isEnd(int state, int tone) {
            return (tone == NONE || toneOf(state) == tone) && closes(state);
        }

        int behind(int state, int m, int s) {
            return turned[s * MOODS + state / LASTS] + m;
        }

        /** Lays out the minutes of a set and the states behind them, the first minute first: how many. */
        int branch(int state, long set) {
            int n = 0;
            for (int m = 0; m < MOST_MEMBERS; m++) {
                int minute = 10 * m;
                int at = state / LASTS;
                for (int sayings = sayingsOf(set, m); sayings != 0; sayings >>>= 1) {
                    if ((sayings & 1) != 0) {
                        branchMinutes[n] = minute;
                        branchStates[n] = turned[at] + m;
                        n++;
                    }
                    minute++;
                    at += MOODS;
                }
            }
            return n;
        }
    }

    /** Ways through the states, the fewest minutes first, of like ones the first minute by minute. */
    private static final class Ways {
        static final int STATE_BITS = 10;
        static final int STATE_MASK = (1 << STATE_BITS) - 1;
        static final int SPOKEN_MASK = (1 << MOST_MEMBERS) - 1;
        static final int NODE_BITS = STATE_BITS + MOST_MEMBERS;

        final Moves moves;
        /* Nodes in the order in which they were reached: state, who spoke, and the place of the node ahead of it. */
        int[] queue = new int[STATES];
        int size;
        /* Of each state, by the set of those who spoke, whether it was reached. */
        final long[] reached = new long[STATES];
        int found = NONE;
        int length = NONE;
        /* What was searched for. */
        private int version = NONE;
        private int start;
        private int tone;
        private long use;
        private int heatCap;
        private int wanted;

        Ways(Moves moves) {
            this.moves = moves;
        }

        /** How many minutes lead to an end, by minutes of a set, no hotter than a cap, so that all wanted speak; NONE. */
        int find(int from, int toTone, long allowed, int cap, int speakers) {
            if (version == moves.version && start == from && tone == toTone && use == allowed
                    && heatCap == cap && wanted == speakers) {
                return length;
            }
            version = moves.version;
            start = from;
            tone = toTone;
            use = allowed;
            heatCap = cap;
            wanted = speakers;
            makeRoom();
            size = 0;
            found = NONE;
            reach(start, 0, 0);
            for (int i = 0; i < queue.length && i < size && found == NONE; i++) {
                if (spokenAt(i) == wanted && moves.isEnd(stateAt(i), tone)) {
                    found = i;
                } else {
                    spread(i);
                }
            }
            for (int i = 0; i < size; i++) {
                reached[stateAt(i)] = 0;
            }
            length = found == NONE ? NONE : lengthTo(found);
            return length;
        }

        /** A wanted set takes more nodes: behind the first one, the last speaker is one of the set. */
        private void makeRoom() {
            int members = Integer.bitCount(wanted);
            int nodes = Math.max(STATES, MOODS * members * (1 << members) / 2 + 1);
            if (queue.length < nodes) {
                queue = new int[nodes];
            }
        }

        private void reach(int state, int spoken, int from) {
            boolean isCool = heatCap == HIGHEST || heatOf(state) <= heatCap;
            if ((reached[state] >>> spoken & 1) == 0 && isCool && size < queue.length) {
                reached[state] |= 1L << spoken;
                queue[size] = state | spoken << STATE_BITS | from << NODE_BITS;
                size++;
            }
        }

        private void spread(int from) {
            int state = stateAt(from);
            int spoken = spokenAt(from);
            long minutes = moves.minutesAt(state) & use;
            for (int m = 0; m < MOST_MEMBERS; m++) {
                int spokenThen = wanted == 0 ? 0 : spoken | 1 << m;
                int at = state / LASTS;
                for (int sayings = sayingsOf(minutes, m); sayings != 0; sayings >>>= 1) {
                    if ((sayings & 1) != 0) {
                        reach(moves.turned[at] + m, spokenThen, from);
                    }
                    at += MOODS;
                }
            }
        }

        int stateAt(int i) {
            return queue[i] & STATE_MASK;
        }

        private int spokenAt(int i) {
            return queue[i] >>> STATE_BITS & SPOKEN_MASK;
        }

        private int ahead(int i) {
            return queue[i] >>> NODE_BITS;
        }

        int lengthTo(int node) {
            int steps = 0;
            for (int at = node; at > 0 && steps < size; at = ahead(at)) {
                steps++;
            }
            return steps;
        }

        /** The i-th minute of the way that was found; NONE, if it has not so many or there is none. */
        int minuteAt(int i) {
            if (i < 0 || i >= length) {
                return NONE;
            }
            int node = found;
            for (int left = length - 1; left > i; left--) {
                node = ahead(node);
            }
            int state = stateAt(ahead(node));
            int n = moves.branch(state, moves.minutesAt(state) & use);
            for (int k = 0; k < n; k++) {
                if (moves.branchStates[k] == stateAt(node)) {
                    return moves.branchMinutes[k];
                }
            }
            return NONE;
        }

        /** Of a search that came everywhere: how many minutes lead to an end with a tone; NONE. */
        int firstLength(int tone) {
            for (int i = 0; i < size; i++) {
                if (moves.isEnd(stateAt(i), tone)) {
                    return lengthTo(i);
                }
            }
            return NONE;
        }
    }

    /** Rows of so many minutes, by what was told of each of them, layer by layer of states. */
    private static final class Layers {
        static final int LAYERS = MOST_TOLD + 1;
        static final int NOT_REACHED = -1;
        static final int NEVER = 100;

        final Moves moves;
        final int[] told = new int[MOST_TOLD];
        int size;
        /* Of each state behind so many minutes: how many of those that follow are others than told, at fewest. */
        final byte[] others = new byte[LAYERS * STATES];
        /* The states that were reached, layer behind layer, and where each layer begins. */
        final int[] order = new int[LAYERS * STATES];
        final int[] begins = new int[LAYERS + 1];
        /* How many rows lead to a state: all 0 between calls. */
        private long[] rowsTo = new long[STATES];
        private long[] rowsBehind = new long[STATES];
        private boolean strict;
        /* What was weighed; version NONE: what is told has changed since. */
        private int version = NONE;
        private int start;
        private int tone;

        Layers(Moves moves) {
            this.moves = moves;
        }

        void tellSize(int n) {
            if (size != n && n >= 0 && n <= MOST_TOLD) {
                size = n;
                version = NONE;
            }
        }

        void tell(int i, int minute) {
            if (i >= 0 && i < size && told[i] != minute) {
                told[i] = minute;
                version = NONE;
            }
        }

        int firstBaulk(int from) {
            int state = from;
            for (int i = 0; i < size; i++) {
                if (!canStay(state, i)) {
                    return i;
                }
                state = behindTold(state, i);
            }
            return NONE;
        }

        private boolean canStay(int state, int i) {
            return (moves.minutesAt(state) & toldBit(i)) != 0;
        }

        private int behindTold(int state, int i) {
            return told[i] == NONE ? state : moves.behind(state, told[i] / 10, told[i] % 10);
        }

        private long toldBit(int i) {
            return told[i] == NONE ? 0 : minuteBit(told[i] / 10, told[i] % 10);
        }

        /** Lays out the minutes that can stand at a place of a row, in a state. */
        private int branchFor(int i, int state) {
            long minutes = moves.minutesAt(state);
            return moves.branch(state, strict && told[i] != NONE ? minutes & toldBit(i) : minutes);
        }

        /** How many rows are as told and at an end with a tone. */
        long countRows(int from, int toTone) {
            version = NONE;
            strict = true;
            rowsTo[from] = 1;
            order[0] = from;
            begins[0] = 0;
            begins[1] = 1;
            for (int i = 0; i < size; i++) {
                countLayer(i);
                long[] former = rowsTo;
                rowsTo = rowsBehind;
                rowsBehind = former;
            }
            long sum = 0;
            for (int at = begins[size]; at < begins[size + 1]; at++) {
                if (moves.isEnd(order[at], toTone)) {
                    sum += rowsTo[order[at]];
                }
                rowsTo[order[at]] = 0;
            }
            return sum;
        }

        private void countLayer(int i) {
            int end = begins[i + 1];
            for (int at = begins[i]; at < begins[i + 1]; at++) {
                int state = order[at];
                int n = branchFor(i, state);
                for (int k = 0; k < n; k++) {
                    int behind = moves.branchStates[k];
                    if (rowsBehind[behind] == 0) {
                        order[end] = behind;
                        end++;
                    }
                    rowsBehind[behind] += rowsTo[state];
                }
                rowsTo[state] = 0;
            }
            begins[i + 2] = end;
        }

        /** How many minutes of the row that is right are others than told; NONE. As told: none may be. */
        int weigh(int from, int toTone, boolean asTold) {
            if (version == moves.version && start == from && tone == toTone && strict == asTold) {
                return others[start] == NEVER ? NONE : others[start];
            }
            version = moves.version;
            start = from;
            tone = toTone;
            strict = asTold;
            Arrays.fill(others, (byte) NOT_REACHED);
            others[start] = NEVER;
            order[0] = start;
            begins[0] = 0;
            begins[1] = 1;
            for (int i = 0; i < size; i++) {
                reachLayer(i);
            }
            for (int at = begins[size]; at < begins[size + 1]; at++) {
                if (moves.isEnd(order[at], tone)) {
                    others[size * STATES + order[at]] = 0;
                }
            }
            for (int i = size - 1; i >= 0; i--) {
                for (int at = begins[i]; at < begins[i + 1]; at++) {
                    others[i * STATES + order[at]] = (byte) fewestFrom(i, order[at]);
                }
            }
            return others[start] == NEVER ? NONE : others[start];
        }

        private void reachLayer(int i) {
            int end = begins[i + 1];
            for (int at = begins[i]; at < begins[i + 1]; at++) {
                int n = branchFor(i, order[at]);
                for (int k = 0; k < n; k++) {
                    int behind = moves.branchStates[k];
                    if (others[(i + 1) * STATES + behind] == NOT_REACHED) {
                        others[(i + 1) * STATES + behind] = NEVER;
                        order[end] = behind;
                        end++;
                    }
                }
            }
            begins[i + 2] = end;
        }

        private int fewestFrom(int i, int state) {
            int fewest = NEVER;
            int n = branchFor(i, state);
            for (int k = 0; k < n; k++) {
                fewest = Math.min(fewest, othersBy(i, k));
            }
            return fewest;
        }

        /** How many others there are by the k-th minute that was laid out for a place, at fewest. */
        private int othersBy(int i, int k) {
            int other = strict || told[i] == moves.branchMinutes[k] ? 0 : 1;
            return others[(i + 1) * STATES + moves.branchStates[k]] + other;
        }

        /** The i-th minute of the row that was weighed as right; NONE, if it has not so many. */
        int rightMinute(int i) {
            int minute = NONE;
            int state = start;
            for (int place = 0; place <= i && i < size; place++) {
                int k = firstRight(place, state);
                if (k == NONE) {
                    return NONE;
                }
                minute = moves.branchMinutes[k];
                state = moves.branchStates[k];
            }
            return minute;
        }

        private int firstRight(int i, int state) {
            int n = branchFor(i, state);
            for (int k = 0; k < n; k++) {
                if (othersBy(i, k) == others[i * STATES + state]) {
                    return k;
                }
            }
            return NONE;
        }

        /** How many of the first minutes told can stay so that some row that was weighed goes on from them. */
        int longestKept() {
            int longest = 0;
            int state = start;
            for (int i = 0; i < size && canStay(state, i); i++) {
                state = behindTold(state, i);
                if (others[(i + 1) * STATES + state] != NEVER) {
                    longest = i + 1;
                }
            }
            return longest;
        }

        /** The minutes that stand at a place in some row that was weighed as told. */
        long minutesThatFit(int i) {
            long fit = 0;
            if (i < 0 || i >= size) {
                return fit;
            }
            for (int at = begins[i]; at < begins[i + 1]; at++) {
                int n = branchFor(i, order[at]);
                for (int k = 0; k < n; k++) {
                    if (othersBy(i, k) == 0) {
                        int minute = moves.branchMinutes[k];
                        fit |= minuteBit(minute / 10, minute % 10);
                    }
                }
            }
            return fit;
        }
    }

    /** Two secretaries by turns, in the states that a search came to. */
    private static final class Game {
        final Moves moves;
        final Ways ways;
        /* Within how many minutes the first forces an end, if it writes next, or the second one does; NONE: not yet. */
        final int[] firstWrites = new int[STATES];
        final int[] secondWrites = new int[STATES];
        /* Moods some of whose states were settled by the last number of minutes: only what leads there can follow. */
        final int[] fresh = new int[MOODS];
        final int[] touched = new int[MOODS];
        /* What was played for. */
        private int version = NONE;
        private int start;
        private int tone;

        Game(Moves moves, Ways ways) {
            this.moves = moves;
            this.ways = ways;
        }

        int forcedWithin(int from, int toTone) {
            if (version == moves.version && start == from && tone == toTone) {
                return firstWrites[start];
            }
            version = moves.version;
            start = from;
            tone = toTone;
            ways.find(start, NO_TONE, ALL_MINUTES, HIGHEST, 0);
            Arrays.fill(fresh, 0);
            for (int i = 0; i < ways.size; i++) {
                int state = ways.stateAt(i);
                boolean ended = moves.isEnd(state, tone);
                firstWrites[state] = ended ? 0 : NONE;
                secondWrites[state] = ended ? 0 : NONE;
                fresh[state / LASTS] |= ended ? 1 : 0;
            }
            boolean more = true;
            for (int n = 1; n <= 2 * STATES && more && firstWrites[start] == NONE; n++) {
                turnToFresh();
                more = settleWithin(n);
            }
            return firstWrites[start];
        }

        /** Finds the moods from which some saying leads to a fresh one; none is fresh then. */
        private void turnToFresh() {
            for (int mood = 0; mood < MOODS; mood++) {
                touched[mood] = 0;
                for (int s = 0; s < moves.book.sayings; s++) {
                    touched[mood] |= fresh[moves.turned[s * MOODS + mood] / LASTS];
                }
            }
            Arrays.fill(fresh, 0);
        }

        private boolean settleWithin(int n) {
            boolean more = false;
            for (int i = 0; i < ways.size; i++) {
                int state = ways.stateAt(i);
                int mood = state / LASTS;
                if (touched[mood] != 0 && firstWrites[state] == NONE && firstForcing(state, n) != NONE) {
                    firstWrites[state] = n;
                    fresh[mood] = 1;
                    more = true;
                }
                if (touched[mood] != 0 && secondWrites[state] == NONE && allForce(state, n)) {
                    secondWrites[state] = n;
                    fresh[mood] = 1;
                    more = true;
                }
            }
            return more;
        }

        /** The first minute by which the first one forces an end within n minutes, this one too; NONE. */
        int firstForcing(int state, int n) {
            int branches = moves.branch(state, moves.minutesAt(state));
            for (int k = 0; k < branches; k++) {
                if (isEarlier(secondWrites[moves.branchStates[k]], n)) {
                    return moves.branchMinutes[k];
                }
            }
            return NONE;
        }

        private boolean allForce(int state, int n) {
            int branches = moves.branch(state, moves.minutesAt(state));
            for (int k = 0; k < branches; k++) {
                if (!isEarlier(firstWrites[moves.branchStates[k]], n)) {
                    return false;
                }
            }
            return branches > 0;
        }

        private static boolean isEarlier(int within, int n) {
            return within != NONE && within < n;
        }
    }
}
