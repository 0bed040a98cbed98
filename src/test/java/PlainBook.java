import java.math.BigInteger;
import java.util.ArrayDeque;
import java.util.ArrayList;
import java.util.Collections;
import java.util.Deque;
import java.util.HashMap;
import java.util.HashSet;
import java.util.LinkedHashMap;
import java.util.List;
import java.util.Map;
import java.util.Set;
import java.util.TreeSet;
import java.util.function.ToLongFunction;
import java.util.regex.Matcher;
import java.util.regex.Pattern;

/**
 * The document once more, written as plainly as the Java library lets it be and by other ways than the class:
 * rows are kept as lists, laws as trees, chances as big fractions. The class is held against it.
 */
final class PlainBook {
    static final int NONE = -1;

    record Mood(int tone, int heat, int last) { }

    record Sit(Mood mood, List<Integer> marks, int said) { }

    record Ask(Mood mood, int who, int mark, int saying) { }

    record Row(int weight, List<Integer> minutes) { }

    record Token(String text, int place) { }

    static final class Fault extends RuntimeException {
        private static final long serialVersionUID = 1L;
        final int kind;
        final int place;

        Fault(int kind, int place) {
            this.kind = kind;
            this.place = place;
        }
    }

    static final class Told {
        int tone;
        int heat;
        int lines;
        int stroke;
        final List<Integer> marks = new ArrayList<>();
        final List<int[]> sayings = new ArrayList<>();
        ToLongFunction<Ask> would = ask -> 1;
        ToLongFunction<Ask> closes = ask -> ask.mood().heat() == 0 ? 1 : 0;

        Sit sit() {
            return new Sit(new Mood(tone, heat, 9), List.copyOf(marks), 0);
        }
    }

    // ---- reading

    static final class Parser {
        final List<Token> tokens = new ArrayList<>();
        final int length;
        int at;

        Parser(String text) {
            length = text.length();
            Matcher matcher = Pattern.compile("[ \n]+|([a-z]+|[0-9]+|[-;:+*()\\[\\]=<>])").matcher(text);
            int place = 0;
            while (place < length && matcher.find(place) && matcher.start() == place) {
                if (matcher.group(1) != null) {
                    tokens.add(new Token(matcher.group(1), place));
                }
                place = matcher.end();
            }
            if (place < length) {
                tokens.add(new Token("?", place));
            }
        }

        String peek() {
            if (at == tokens.size()) {
                return "";
            }
            Token token = tokens.get(at);
            if (token.text().equals("?") || token.text().matches("[0-9]{4,}")) {
                throw new Fault(1, token.place());
            }
            return token.text();
        }

        Fault fault(int kind) {
            return new Fault(kind, at == tokens.size() ? length : tokens.get(at).place());
        }

        void must(String text) {
            if (!peek().equals(text)) {
                throw fault(2);
            }
            at++;
        }

        int number(int most) {
            if (!peek().matches("[0-9]+")) {
                throw fault(2);
            }
            int value = Integer.parseInt(peek());
            if (value > most) {
                throw fault(3);
            }
            at++;
            return value;
        }

        Told read() {
            Told told = new Told();
            must("book");
            must("tone");
            told.tone = number(9);
            must("heat");
            told.heat = number(9);
            must(";");
            told.lines = 1;
            while (!peek().isEmpty()) {
                line(told);
                must(";");
                told.lines++;
            }
            return told;
        }

        void line(Told told) {
            String word = peek();
            if (word.equals("member") && told.marks.size() == 6 || word.equals("saying") && told.sayings.size() == 8) {
                throw fault(4);
            }
            if (!List.of("member", "saying", "would", "closes", "stroke").contains(word)) {
                throw fault(2);
            }
            at++;
            if (word.equals("member")) {
                int mark = 0;
                while (peek().equals("mark")) {
                    at++;
                    mark = number(9);
                }
                told.marks.add(mark);
            } else if (word.equals("saying")) {
                int[] turns = new int[2];
                while (List.of("up", "down", "warm", "cool").contains(peek())) {
                    String turn = peek();
                    at++;
                    int by = number(9);
                    turns[turn.equals("up") || turn.equals("down") ? 0 : 1] = turn.equals("up") || turn.equals("warm") ? by : -by;
                }
                told.sayings.add(turns);
            } else if (word.equals("stroke")) {
                told.stroke = number(10);
            } else {
                must(":");
                ToLongFunction<Ask> law = truth(0, word.equals("would"));
                if (word.equals("would")) {
                    told.would = law;
                } else {
                    told.closes = law;
                }
            }
        }

        ToLongFunction<Ask> truth(int deep, boolean would) {
            ToLongFunction<Ask> left = both(deep, would);
            while (peek().equals("or")) {
                at++;
                ToLongFunction<Ask> a = left;
                ToLongFunction<Ask> b = both(deep, would);
                left = ask -> a.applyAsLong(ask) != 0 || b.applyAsLong(ask) != 0 ? 1 : 0;
            }
            return left;
        }

        ToLongFunction<Ask> both(int deep, boolean would) {
            ToLongFunction<Ask> left = unit(deep, would);
            while (peek().equals("and")) {
                at++;
                ToLongFunction<Ask> a = left;
                ToLongFunction<Ask> b = unit(deep, would);
                left = ask -> a.applyAsLong(ask) != 0 && b.applyAsLong(ask) != 0 ? 1 : 0;
            }
            return left;
        }

        ToLongFunction<Ask> unit(int deep, boolean would) {
            String word = peek();
            if (word.equals("not") || word.equals("[")) {
                if (deep == 6) {
                    throw fault(4);
                }
                at++;
                if (word.equals("not")) {
                    ToLongFunction<Ask> a = unit(deep + 1, would);
                    return ask -> 1 - a.applyAsLong(ask);
                }
                ToLongFunction<Ask> a = truth(deep + 1, would);
                must("]");
                return a;
            }
            ToLongFunction<Ask> a = sum(deep, would);
            String sign = peek();
            if (!List.of("=", "<", ">").contains(sign)) {
                throw fault(2);
            }
            at++;
            ToLongFunction<Ask> b = sum(deep, would);
            return ask -> {
                int way = Long.compare(a.applyAsLong(ask), b.applyAsLong(ask));
                return (sign.equals("=") ? way == 0 : sign.equals("<") ? way < 0 : way > 0) ? 1 : 0;
            };
        }

        ToLongFunction<Ask> sum(int deep, boolean would) {
            ToLongFunction<Ask> left = term(deep, would);
            while (peek().equals("+") || peek().equals("-")) {
                boolean plus = peek().equals("+");
                at++;
                ToLongFunction<Ask> a = left;
                ToLongFunction<Ask> b = term(deep, would);
                left = ask -> held(a.applyAsLong(ask) + (plus ? 1 : -1) * b.applyAsLong(ask));
            }
            return left;
        }

        ToLongFunction<Ask> term(int deep, boolean would) {
            ToLongFunction<Ask> left = atom(deep, would);
            while (peek().equals("*")) {
                at++;
                ToLongFunction<Ask> a = left;
                ToLongFunction<Ask> b = atom(deep, would);
                left = ask -> held(a.applyAsLong(ask) * b.applyAsLong(ask));
            }
            return left;
        }

        ToLongFunction<Ask> atom(int deep, boolean would) {
            String word = peek();
            if (word.equals("(")) {
                if (deep == 6) {
                    throw fault(4);
                }
                at++;
                ToLongFunction<Ask> a = sum(deep + 1, would);
                must(")");
                return a;
            }
            if (word.matches("[0-9]+")) {
                long value = number(999);
                return ask -> value;
            }
            boolean known = List.of("tone", "heat", "last").contains(word)
                || would && List.of("who", "mark", "saying").contains(word);
            if (!known) {
                throw fault(2);
            }
            at++;
            return ask -> switch (word) {
                case "tone" -> ask.mood().tone();
                case "heat" -> ask.mood().heat();
                case "last" -> ask.mood().last();
                case "who" -> ask.who();
                case "mark" -> ask.mark();
                default -> ask.saying();
            };
        }

        static long held(long v) {
            return Math.max(-1_000_000, Math.min(1_000_000, v));
        }
    }

    // ---- state

    private final StringBuilder tape = new StringBuilder();
    private Told told = new Told();
    private Sit sit = told.sit();
    private Deque<Sit> undoable = new ArrayDeque<>();
    private int fault = 0;
    private int place = NONE;
    private final long[][] trays = new long[4][];
    private final int[] sorts = new int[4];
    private final Told[] imageTold = new Told[2];
    private final Sit[] imageSit = new Sit[2];

    private boolean would(Mood mood, int m, int mark, int s) {
        return told.would.applyAsLong(new Ask(mood, m, mark, s)) != 0;
    }

    private boolean would(Mood mood, int v) {
        return would(mood, v / 10, sit.marks().get(v / 10), v % 10);
    }

    private boolean closes(Mood mood) {
        return told.closes.applyAsLong(new Ask(mood, 0, 0, 0)) != 0;
    }

    private boolean isEnd(Mood mood, int tone) {
        return closes(mood) && (tone == NONE || tone == mood.tone());
    }

    private Mood behind(Mood mood, int v) {
        int[] turns = told.sayings.get(v % 10);
        return new Mood(Math.max(0, Math.min(9, mood.tone() + turns[0])), Math.max(0, Math.min(9, mood.heat() + turns[1])), v / 10);
    }

    private List<Integer> minutes() {
        List<Integer> all = new ArrayList<>();
        for (int m = 0; m < told.marks.size(); m++) {
            for (int s = 0; s < told.sayings.size(); s++) {
                all.add(10 * m + s);
            }
        }
        return all;
    }

    private boolean isMinute(long v) {
        return v >= 0 && v < 60 && minutes().contains((int) v);
    }

    private static boolean isTone(int tone) {
        return tone >= -1 && tone <= 9;
    }

    // ---- the book

    int feed(int a, int b, int c, int d, int e) {
        if (tape.length() + 20 > 900) {
            return -5;
        }
        for (int four : new int[] {a, b, c, d, e}) {
            tape.append((char) (four >>> 24)).append((char) (four >>> 16 & 255)).append((char) (four >>> 8 & 255)).append((char) (four & 255));
        }
        return tape.length();
    }

    int book(int n) {
        if (n < 0 || n > tape.length()) {
            return -3;
        }
        String text = tape.substring(0, n);
        tape.setLength(0);
        fault = 0;
        place = NONE;
        try {
            told = new Parser(text).read();
        } catch (Fault found) {
            fault = found.kind;
            place = found.place;
            return -30 - fault;
        }
        sit = told.sit();
        undoable.clear();
        return told.lines;
    }

    int fault(int what) {
        return what == 0 ? fault : what == 1 ? place : NONE;
    }

    int member(int m, int what) {
        if (m < 0 || m >= told.marks.size() || what < 0 || what > 2) {
            return -2;
        }
        if (what == 0) {
            return sit.marks().get(m);
        }
        if (what == 2) {
            return sit.mood().last() == m ? 1 : 0;
        }
        int bits = 0;
        for (int s = 0; s < told.sayings.size(); s++) {
            bits |= would(sit.mood(), 10 * m + s) ? 1 << s : 0;
        }
        return bits;
    }

    int saying(int s, int what) {
        if (s < 0 || s >= told.sayings.size() || what < 0 || what > 2) {
            return -99000002;
        }
        if (what < 2) {
            return told.sayings.get(s)[what];
        }
        int bits = 0;
        for (int m = 0; m < told.marks.size(); m++) {
            bits |= would(sit.mood(), 10 * m + s) ? 1 << m : 0;
        }
        return bits;
    }

    int closed() {
        return closes(sit.mood()) ? 1 : 0;
    }

    int open() {
        return (int) minutes().stream().filter(v -> would(sit.mood(), v)).count();
    }

    // ---- deeds

    private Sit done(Sit from, long v, int[] why) {
        why[0] = 0;
        if (v == NONE) {
            return new Sit(told.sit().mood(), from.marks(), 0);
        }
        if (v >= 0 && v < 100) {
            if (!isMinute(v)) {
                why[0] = 1;
                return from;
            }
            int m = (int) v / 10;
            if (!would(from.mood(), m, from.marks().get(m), (int) v % 10)) {
                why[0] = 2;
                return from;
            }
            return new Sit(behind(from.mood(), (int) v), from.marks(), from.said() + 1);
        }
        if (v >= 100 && v < 200 && (v - 100) / 10 < told.marks.size()) {
            List<Integer> marks = new ArrayList<>(from.marks());
            marks.set((int) (v - 100) / 10, (int) v % 10);
            return new Sit(from.mood(), marks, from.said());
        }
        why[0] = 1;
        return from;
    }

    private void keep(Sit ahead) {
        undoable.push(ahead);
        if (undoable.size() > 10) {
            undoable.removeLast();
        }
    }

    int say(int m, int s) {
        boolean known = m >= 0 && m < told.marks.size() && s >= 0 && s < told.sayings.size();
        int[] why = {1};
        Sit ahead = sit;
        if (known) {
            sit = done(sit, 10 * m + s, why);
        }
        if (why[0] != 0) {
            return -10 - why[0];
        }
        keep(ahead);
        return 10 * sit.mood().tone() + sit.mood().heat();
    }

    int mark(int m, int n) {
        if (m < 0 || m >= told.marks.size() || n < 0 || n > 9) {
            return -11;
        }
        keep(sit);
        int was = sit.marks().get(m);
        sit = done(sit, 100 + 10 * m + n, new int[1]);
        return was;
    }

    int adjourn() {
        keep(sit);
        int said = sit.said();
        sit = done(sit, NONE, new int[1]);
        return said;
    }

    int undo(int n) {
        if (n < 1 || n > undoable.size()) {
            return -3;
        }
        for (int i = 0; i < n; i++) {
            sit = undoable.pop();
        }
        return undoable.size();
    }

    private int noTray(int tray) {
        return tray < 0 || tray > 3 ? -2 : trays[tray] == null ? -6 : 0;
    }

    int judge(int tray, int what) {
        if (tray < 0 || tray > 3 || what < 0 || what > 3) {
            return -2;
        }
        if (trays[tray] == null) {
            return -6;
        }
        Sit on = sit;
        int[] why = {0};
        int stop = NONE;
        for (int i = 0; i < trays[tray].length && stop == NONE; i++) {
            on = done(on, trays[tray][i], why);
            stop = why[0] != 0 ? i : NONE;
        }
        return switch (what) {
            case 0 -> stop;
            case 1 -> why[0];
            case 2 -> 10 * on.mood().tone() + on.mood().heat();
            default -> closes(on.mood()) ? 1 : 0;
        };
    }

    int perform(int tray) {
        if (noTray(tray) != 0) {
            return noTray(tray);
        }
        Sit ahead = sit;
        int[] why = {0};
        int count = 0;
        while (count < trays[tray].length) {
            sit = done(sit, trays[tray][count], why);
            if (why[0] != 0) {
                break;
            }
            count++;
        }
        if (count > 0) {
            keep(ahead);
        }
        return count;
    }

    int monday(int seed, int times) {
        if (times < 1 || times > 40) {
            return -3;
        }
        int[] x = {seed};
        int[] why = {0};
        int count = 0;
        Sit ahead = sit;
        for (int i = 0; i < times; i++) {
            int kind = draw(x) % 6;
            long deed = NONE;
            if (kind <= 3) {
                deed = 10L * (draw(x) % 6);
                deed += draw(x) % 8;
            } else if (kind == 4) {
                deed = 100 + 10L * (draw(x) % 6);
                deed += draw(x) % 10;
            }
            sit = done(sit, deed, why);
            count += why[0] == 0 ? 1 : 0;
        }
        if (count > 0) {
            keep(ahead);
        }
        return count;
    }

    private static int draw(int[] x) {
        x[0] = 1103515245 * x[0] + 12345;
        return x[0] >>> 16;
    }

    // ---- minutes

    private static boolean isFirst(List<Integer> a, List<Integer> b) {
        for (int i = 0; i < a.size(); i++) {
            int way = Integer.compare(a.get(i), b.get(i));
            if (way != 0) {
                return way < 0;
            }
        }
        return false;
    }

    /** A place on a way: its mood, who spoke on it, and how hot it was at its greatest. */
    record Spot(Mood mood, TreeSet<Integer> spoken, int hottest) { }

    interface Goal {
        boolean holds(Spot spot);
    }

    /** The fewest minutes of some to a goal, of like ones the first, or null; each round has the first row to each spot. */
    private List<Integer> fewest(List<Integer> some, boolean whoCounts, boolean heatCounts, Goal goal) {
        Map<Spot, List<Integer>> seen = new HashMap<>();
        Map<Spot, List<Integer>> round = new LinkedHashMap<>();
        round.put(new Spot(sit.mood(), new TreeSet<>(), heatCounts ? sit.mood().heat() : 0), new ArrayList<>());
        while (!round.isEmpty()) {
            List<Integer> best = null;
            for (Map.Entry<Spot, List<Integer>> entry : round.entrySet()) {
                if (goal.holds(entry.getKey()) && (best == null || isFirst(entry.getValue(), best))) {
                    best = entry.getValue();
                }
            }
            if (best != null) {
                return best;
            }
            seen.putAll(round);
            Map<Spot, List<Integer>> next = new LinkedHashMap<>();
            for (Map.Entry<Spot, List<Integer>> entry : round.entrySet()) {
                Spot spot = entry.getKey();
                for (int v : some) {
                    if (would(spot.mood(), v)) {
                        Mood mood = behind(spot.mood(), v);
                        TreeSet<Integer> spoken = new TreeSet<>(spot.spoken());
                        if (whoCounts) {
                            spoken.add(v / 10);
                        }
                        Spot then = new Spot(mood, spoken, heatCounts ? Math.max(spot.hottest(), mood.heat()) : 0);
                        List<Integer> row = new ArrayList<>(entry.getValue());
                        row.add(v);
                        if (!seen.containsKey(then) && (!next.containsKey(then) || isFirst(row, next.get(then)))) {
                            next.put(then, row);
                        }
                    }
                }
            }
            round = next;
        }
        return null;
    }

    private List<Integer> row(int tone) {
        return fewest(minutes(), false, false, spot -> isEnd(spot.mood(), tone));
    }

    private List<Integer> fullRow(int tone) {
        return fewest(minutes(), true, false, spot -> spot.spoken().size() == told.marks.size() && isEnd(spot.mood(), tone));
    }

    private static int lengthOf(List<Integer> row) {
        return row == null ? NONE : row.size();
    }

    private static int at(List<Integer> row, int i) {
        return row == null || i >= row.size() ? NONE : row.get(i);
    }

    int shortest(int tone) {
        return isTone(tone) ? lengthOf(row(tone)) : -3;
    }

    int minute(int tone, int i) {
        return isTone(tone) && i >= 0 ? at(row(tone), i) : -3;
    }

    long rows(int tone, int n) {
        if (!isTone(tone) || n < 0 || n > 10) {
            return -3;
        }
        return fitting(Collections.nCopies(n, (long) NONE), tone);
    }

    /** How many rows are as told, NONE being any minute, and at an end. */
    private long fitting(List<Long> row, int tone) {
        Map<Mood, BigInteger> ways = new HashMap<>();
        ways.put(sit.mood(), BigInteger.ONE);
        for (long v : row) {
            Map<Mood, BigInteger> next = new HashMap<>();
            for (Map.Entry<Mood, BigInteger> entry : ways.entrySet()) {
                for (int w : minutes()) {
                    if ((v == NONE || v == w) && would(entry.getKey(), w)) {
                        next.merge(behind(entry.getKey(), w), entry.getValue(), BigInteger::add);
                    }
                }
            }
            ways = next;
        }
        BigInteger sum = BigInteger.ZERO;
        for (Map.Entry<Mood, BigInteger> entry : ways.entrySet()) {
            if (isEnd(entry.getKey(), tone)) {
                sum = sum.add(entry.getValue());
            }
        }
        return sum.bitLength() > 63 ? Long.MAX_VALUE : sum.longValueExact();
    }

    private List<Integer> rowOf(int tone, int withoutMember, int withoutSaying) {
        List<Integer> some = minutes();
        some.removeIf(v -> v / 10 == withoutMember || v % 10 == withoutSaying);
        return fewest(some, false, false, spot -> isEnd(spot.mood(), tone));
    }

    int without(int m, int tone) {
        if (m < 0 || m >= told.marks.size()) {
            return -2;
        }
        return isTone(tone) ? lengthOf(rowOf(tone, m, 99)) : -3;
    }

    int needed(int tone) {
        if (!isTone(tone)) {
            return -3;
        }
        int bits = 0;
        for (int m = 0; m < told.marks.size(); m++) {
            bits |= row(tone) != null && rowOf(tone, m, 99) == null ? 1 << m : 0;
        }
        return bits;
    }

    int full(int tone) {
        return isTone(tone) ? lengthOf(fullRow(tone)) : -3;
    }

    int fullMinute(int tone, int i) {
        return isTone(tone) && i >= 0 ? at(fullRow(tone), i) : -3;
    }

    int tones() {
        int bits = 0;
        for (int tone = 0; tone < 10; tone++) {
            bits |= row(tone) != null ? 1 << tone : 0;
        }
        return bits;
    }

    int calmest(int tone, int what) {
        if (what < 0 || what > 1 && what < 10 || what > 29) {
            return -2;
        }
        if (!isTone(tone)) {
            return -3;
        }
        for (int heat = 0; heat < 10; heat++) {
            int most = heat;
            List<Integer> row = fewest(minutes(), false, true, spot -> spot.hottest() <= most && isEnd(spot.mood(), tone));
            if (row != null) {
                return what == 0 ? heat : what == 1 ? row.size() : at(row, what - 10);
            }
        }
        return NONE;
    }

    int keyword() {
        List<Integer> now = row(NONE);
        int found = NONE;
        int longest = lengthOf(now);
        for (int s = 0; now != null && s < told.sayings.size(); s++) {
            List<Integer> row = rowOf(NONE, 99, s);
            int length = row == null ? 1_000_000 : row.size();
            if (length > longest) {
                longest = length;
                found = s;
            }
        }
        return found;
    }

    // ---- errata, lost lines

    private int noRow(int tray, int most, boolean lost) {
        if (noTray(tray) != 0) {
            return noTray(tray);
        }
        if (trays[tray].length < 1 || trays[tray].length > most) {
            return -4;
        }
        for (long v : trays[tray]) {
            if (!isMinute(v) && !(lost && v == NONE)) {
                return -3;
            }
        }
        return 0;
    }

    int baulk(int tray) {
        if (noRow(tray, 12, false) != 0) {
            return noRow(tray, 12, false);
        }
        Mood mood = sit.mood();
        for (int i = 0; i < trays[tray].length; i++) {
            int v = (int) trays[tray][i];
            if (!would(mood, v)) {
                return i;
            }
            mood = behind(mood, v);
        }
        return NONE;
    }

    private Row rightRow(int tray, int tone) {
        Map<Mood, Row> round = new HashMap<>();
        round.put(sit.mood(), new Row(0, List.of()));
        for (long v : trays[tray]) {
            Map<Mood, Row> next = new HashMap<>();
            for (Map.Entry<Mood, Row> entry : round.entrySet()) {
                for (int w : minutes()) {
                    if (would(entry.getKey(), w)) {
                        List<Integer> row = new ArrayList<>(entry.getValue().minutes());
                        row.add(w);
                        Row then = new Row(entry.getValue().weight() + (v == w ? 0 : 1), row);
                        next.merge(behind(entry.getKey(), w), then, PlainBook::better);
                    }
                }
            }
            round = next;
        }
        Row best = null;
        for (Map.Entry<Mood, Row> entry : round.entrySet()) {
            if (isEnd(entry.getKey(), tone)) {
                best = best == null ? entry.getValue() : better(best, entry.getValue());
            }
        }
        return best;
    }

    private static Row better(Row a, Row b) {
        if (a.weight() != b.weight()) {
            return a.weight() < b.weight() ? a : b;
        }
        return isFirst(b.minutes(), a.minutes()) ? b : a;
    }

    private int noErrata(int tray, int tone, int i) {
        int code = noRow(tray, 12, false);
        return code != 0 ? code : isTone(tone) && i >= 0 ? 0 : -3;
    }

    int errata(int tray, int tone) {
        if (noErrata(tray, tone, 0) != 0) {
            return noErrata(tray, tone, 0);
        }
        Row row = rightRow(tray, tone);
        return row == null ? NONE : row.weight();
    }

    int right(int tray, int tone, int i) {
        if (noErrata(tray, tone, i) != 0) {
            return noErrata(tray, tone, i);
        }
        Row row = rightRow(tray, tone);
        return row == null ? NONE : at(row.minutes(), i);
    }

    int back(int tray, int tone) {
        if (noErrata(tray, tone, 0) != 0) {
            return noErrata(tray, tone, 0);
        }
        for (int stay = trays[tray].length; stay >= 0; stay--) {
            List<Long> row = new ArrayList<>();
            for (int i = 0; i < trays[tray].length; i++) {
                row.add(i < stay ? trays[tray][i] : NONE);
            }
            if (fitting(row, tone) > 0) {
                return stay;
            }
        }
        return NONE;
    }

    private List<Long> lostRow(int tray) {
        List<Long> row = new ArrayList<>();
        for (long v : trays[tray]) {
            row.add(v);
        }
        return row;
    }

    long lost(int tray) {
        return noRow(tray, 10, true) != 0 ? noRow(tray, 10, true) : fitting(lostRow(tray), NONE);
    }

    private List<Integer> mayStand(int tray, int place) {
        List<Integer> may = new ArrayList<>();
        for (int v : minutes()) {
            List<Long> row = lostRow(tray);
            if (row.get(place) == NONE || row.get(place) == v) {
                row.set(place, (long) v);
                if (fitting(row, NONE) > 0) {
                    may.add(v);
                }
            }
        }
        return may;
    }

    private int noPlace(int tray, int place) {
        int code = noRow(tray, 10, true);
        return code != 0 ? code : place < 0 || place >= trays[tray].length ? -7 : 0;
    }

    int sureMinute(int tray, int place) {
        if (noPlace(tray, place) != 0) {
            return noPlace(tray, place);
        }
        List<Integer> may = mayStand(tray, place);
        return may.size() == 1 ? may.get(0) : NONE;
    }

    int speakers(int tray, int place) {
        if (noPlace(tray, place) != 0) {
            return noPlace(tray, place);
        }
        int bits = 0;
        for (int v : mayStand(tray, place)) {
            bits |= 1 << v / 10;
        }
        return bits;
    }

    // ---- marks

    private int noMarks(int tray, int m) {
        return m < 0 || m >= told.marks.size() ? -2 : noRow(tray, 12, false);
    }

    private List<Integer> keptMarks(int tray, int m) {
        List<Integer> marks = new ArrayList<>();
        for (int mark = 0; mark < 10; mark++) {
            Mood mood = sit.mood();
            boolean fits = true;
            for (long v : trays[tray]) {
                fits &= v / 10 != m || would(mood, m, mark, (int) v % 10);
                mood = behind(mood, (int) v);
            }
            if (fits) {
                marks.add(mark);
            }
        }
        return marks;
    }

    int kept(int tray, int m) {
        if (noMarks(tray, m) != 0) {
            return noMarks(tray, m);
        }
        int bits = 0;
        for (int mark : keptMarks(tray, m)) {
            bits |= 1 << mark;
        }
        return bits;
    }

    int attempt(int tray, int m) {
        if (noMarks(tray, m) != 0) {
            return noMarks(tray, m);
        }
        List<Integer> marks = keptMarks(tray, m);
        int found = NONE;
        long most = -1;
        for (int s = 0; s < told.sayings.size() && !marks.isEmpty(); s++) {
            int saying = s;
            long would = marks.stream().filter(mark -> would(sit.mood(), m, mark, saying)).count();
            long lesser = Math.min(would, marks.size() - would);
            if (lesser > most) {
                most = lesser;
                found = s;
            }
        }
        return found;
    }

    // ---- two secretaries, strokes

    record Turn(Mood mood, boolean first) { }

    private List<Turn> behind(Turn turn) {
        List<Turn> all = new ArrayList<>();
        for (int v : minutes()) {
            if (would(turn.mood(), v)) {
                all.add(new Turn(behind(turn.mood(), v), !turn.first()));
            }
        }
        return all;
    }

    private Map<Turn, List<Turn>> turns() {
        Map<Turn, List<Turn>> all = new LinkedHashMap<>();
        Deque<Turn> left = new ArrayDeque<>(List.of(new Turn(sit.mood(), true)));
        while (!left.isEmpty()) {
            Turn turn = left.pop();
            if (!all.containsKey(turn)) {
                all.put(turn, behind(turn));
                left.addAll(all.get(turn));
            }
        }
        return all;
    }

    /** Of each number of minutes the turns from which an end is forced within it, till there come no more. */
    private List<Set<Turn>> forcedTurns(int tone) {
        Map<Turn, List<Turn>> turns = turns();
        List<Set<Turn>> rounds = new ArrayList<>();
        Set<Turn> forced = new HashSet<>();
        turns.keySet().stream().filter(turn -> isEnd(turn.mood(), tone)).forEach(forced::add);
        do {
            rounds.add(forced);
            Set<Turn> before = forced;
            forced = new HashSet<>(before);
            for (Turn turn : turns.keySet()) {
                List<Turn> next = turns.get(turn);
                if (!next.isEmpty() && (turn.first() ? next.stream().anyMatch(before::contains) : before.containsAll(next))) {
                    forced.add(turn);
                }
            }
        } while (forced.size() > rounds.get(rounds.size() - 1).size());
        return rounds;
    }

    private int forcedWithin(List<Set<Turn>> rounds) {
        int n = 0;
        while (n < rounds.size() && !rounds.get(n).contains(new Turn(sit.mood(), true))) {
            n++;
        }
        return n < rounds.size() ? n : NONE;
    }

    int forces(int tone) {
        return isTone(tone) ? forcedWithin(forcedTurns(tone)) : -3;
    }

    int best(int tone) {
        if (!isTone(tone)) {
            return -3;
        }
        List<Set<Turn>> rounds = forcedTurns(tone);
        int n = forcedWithin(rounds);
        if (n > 0) {
            for (int v : minutes()) {
                if (would(sit.mood(), v) && rounds.get(n - 1).contains(new Turn(behind(sit.mood(), v), false))) {
                    return v;
                }
            }
        }
        return NONE;
    }

    int power() {
        int bits = 0;
        for (int tone = 0; tone < 10; tone++) {
            bits |= forces(tone) != NONE ? 1 << tone : 0;
        }
        return bits;
    }

    private BigInteger[] chance(int length) {
        BigInteger above = BigInteger.ONE;
        BigInteger below = BigInteger.ONE;
        for (int i = 0; i < length - 1; i++) {
            above = above.multiply(BigInteger.valueOf(10 - told.stroke));
            below = below.multiply(BigInteger.TEN);
        }
        BigInteger shared = above.gcd(below);
        return new BigInteger[] {above.divide(shared), below.divide(shared)};
    }

    long stroke(int tone, int what) {
        if (what < 0 || what > 1) {
            return -2;
        }
        if (!isTone(tone)) {
            return -3;
        }
        List<Integer> row = row(tone);
        if (row == null) {
            return NONE;
        }
        return row.size() > 16 ? -4 : chance(row.size())[what].longValueExact();
    }

    int likeliest() {
        int found = NONE;
        BigInteger[] greatest = {BigInteger.valueOf(-1), BigInteger.ONE};
        for (int tone = 0; tone < 10; tone++) {
            List<Integer> row = row(tone);
            if (row != null) {
                BigInteger[] chance = chance(row.size());
                if (chance[0].multiply(greatest[1]).compareTo(greatest[0].multiply(chance[1])) > 0) {
                    greatest = chance;
                    found = tone;
                }
            }
        }
        return found;
    }

    // ---- trays, images

    int numbers(int tray, int sort, int n) {
        if (tray < 0 || tray > 3 || sort < 0 || sort > 3) {
            return -2;
        }
        if (n < 0 || n > 40) {
            return -3;
        }
        trays[tray] = new long[n];
        sorts[tray] = sort;
        return 0;
    }

    long write(int tray, int i, long v) {
        if (noTray(tray) != 0) {
            return noTray(tray);
        }
        if (i < 0 || i >= trays[tray].length) {
            return -7;
        }
        trays[tray][i] = switch (sorts[tray]) {
            case 0 -> (byte) v;
            case 1 -> (short) v;
            case 2 -> (int) v;
            default -> v;
        };
        return trays[tray][i];
    }

    int lists(int tray, int tone) {
        if (noTray(tray) != 0) {
            return noTray(tray);
        }
        if (!isTone(tone)) {
            return -3;
        }
        List<Integer> row = row(tone);
        if (row == null) {
            return -5;
        }
        int come = 0;
        while (come < row.size() && come < trays[tray].length) {
            trays[tray][come] = row.get(come);
            come++;
        }
        return come;
    }

    int image(int i) {
        if (i < 0 || i > 1) {
            return -2;
        }
        imageTold[i] = told;
        imageSit[i] = sit;
        return 0;
    }

    int restore(int i) {
        if (i < 0 || i > 1) {
            return -2;
        }
        if (imageTold[i] == null) {
            return -5;
        }
        told = imageTold[i];
        sit = imageSit[i];
        undoable.clear();
        return 0;
    }

    int count(int what) {
        return switch (what) {
            case 0 -> sit.mood().tone();
            case 1 -> sit.mood().heat();
            case 2 -> sit.mood().last() == 9 ? NONE : sit.mood().last();
            case 3 -> told.marks.size();
            case 4 -> told.sayings.size();
            case 5 -> sit.said();
            case 6 -> sit.marks().stream().mapToInt(Integer::intValue).sum();
            case 7 -> undoable.size();
            case 8 -> tape.length();
            case 9 -> told.lines;
            default -> NONE;
        };
    }
}
