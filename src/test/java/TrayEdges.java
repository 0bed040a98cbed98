import java.util.Arrays;
import java.util.function.IntToLongFunction;
import java.util.function.IntUnaryOperator;

/** Edges of trays, errata, lost lines and marks kept; promises 26 to 34 and 40 to 42. */
final class TrayEdges {
    private static final int LEAST = Integer.MIN_VALUE;
    private static final int MOST = Integer.MAX_VALUE;
    private static final int[] OUT_OF_TRAYS = {-1, 4, LEAST, MOST};
    private static final int[] OUT_OF_TONES = {-2, 10, LEAST, MOST};
    /** Two members, three sayings, no laws. */
    private static final String PLAIN = "book tone 5 heat 2;member mark 3;member;saying up 1;saying cool 1;saying down 2 warm 1;";
    private static final String CORRIDOR = MinuteEdges.CORRIDOR;
    private static final String WIDE = "book tone 0 heat 0;" + "member;".repeat(6) + "saying;".repeat(8);
    /** Six members speak in their order, each by a saying of its own; the last one ends it. */
    private static final String ROUND = "book tone 0 heat 1;member;member;member;member;member;member;saying;saying;saying;saying;saying;saying;saying;saying;"
        + "closes : last = 5;would : [who = last + 1 or last = 9 and who = 0] and saying = ";
    private static final String[] ROUNDS = {ROUND + "who + 2;", ROUND + "5 - who;"};
    private static final long[][] IN_THEIR_ORDER = {{2, 13, 24, 35, 46, 57}, {5, 14, 23, 32, 41, 50}};

    private final Edges edges;

    TrayEdges(Edges edges) {
        this.edges = edges;
    }

    void run() {
        edges.terms();
        errataOfATray();
        lostInATray();
        keptInATray();
        trays();
        promise26();
        promise27();
        promise28();
        promise29();
        promise30();
        promise31();
        promise32();
        promise33();
        promise34();
        promise40();
        promise41();
        promise42();
    }

    private static long[] many(int n, long v) {
        long[] numbers = new long[n];
        Arrays.fill(numbers, v);
        return numbers;
    }

    private static long[] with(long[] numbers, int i, long v) {
        numbers[i] = v;
        return numbers;
    }

    /** The tray of a call must be one of four and be there. */
    private void noTray(String call, IntToLongFunction by) {
        for (int tray : OUT_OF_TRAYS) {
            edges.due(call + " of tray " + tray, by.applyAsLong(tray), -2);
        }
        for (int tray = 0; tray < 4; tray++) {
            edges.due(call + " of tray " + tray + ", missing", by.applyAsLong(tray), -6);
        }
    }

    /** How many numbers a call takes; the object has two members and three sayings, and all can be said. */
    private void sizes(String call, MinuteBook x, IntToLongFunction by, int most) {
        for (int tray = 0; tray < 4; tray++) {
            for (int n : new int[] {1, most}) {
                Check.lay(x, tray, many(n, 11));
                edges.due(call + " of " + n + " numbers is refused", by.applyAsLong(tray) < -1 ? 1 : 0, 0);
            }
            for (int n : new int[] {0, most + 1, 40}) {
                Check.lay(x, tray, many(n, 11));
                edges.due(call + " of " + n + " numbers", by.applyAsLong(tray), -4);
                Check.lay(x, tray, many(n, 99));
                edges.due(call + " of " + n + " numbers that are no minutes", by.applyAsLong(tray), -4);
            }
        }
    }

    /** Which numbers a call takes, at the first place and at the last one. */
    private void values(String call, MinuteBook x, IntToLongFunction by, int most, boolean lost) {
        for (int place : new int[] {0, most - 1}) {
            x.numbers(3, 3, most);
            for (long v = -4; v <= 62; v++) {
                boolean fits = v >= 0 && v / 10 < 2 && v % 10 < 3 || lost && v == -1;
                x.write(3, place, v);
                edges.due(call + " with " + v + " is refused by", by.applyAsLong(3) == -3 ? 1 : 0, fits ? 0 : 1);
            }
            for (long v : new long[] {99, 100, 110, 1L << 32, 0xffffffffL, -1L << 32, Long.MIN_VALUE, Long.MAX_VALUE}) {
                x.write(3, place, v);
                edges.due(call + " with " + v, by.applyAsLong(3), -3);
            }
        }
    }

    /** All 48 minutes of six members and eight sayings are taken, at the first place and at the last one, and no others. */
    private void wideValues(String call, java.util.function.ToLongBiFunction<MinuteBook, Integer> by, int most, boolean lost) {
        MinuteBook x = Check.told(WIDE);
        for (int place = 0; place < most; place += most - 1) {
            x.numbers(1, 1, most);
            for (long v = -2; v <= 69; v++) {
                boolean fits = v >= 0 && v < 60 && v % 10 < 8 || lost && v == -1;
                x.write(1, place, v);
                edges.due(call + " with " + v + " is refused by", by.applyAsLong(x, 1) == -3 ? 1 : 0, fits ? 0 : 1);
            }
        }
    }

    private void baulkInTheirOrder(String text, long[] row) {
        MinuteBook x = Check.told(text);
        for (int i = 0; i < 6; i++) {
            Check.lay(x, 0, Arrays.copyOf(row, i + 1));
            edges.due("in their order, " + i, x.baulk(0), -1);
            for (long v : new long[] {row[i] + (row[i] % 10 < 7 ? 1 : -1), row[(i + 1) % 6], row[(i + 5) % 6]}) {
                Check.lay(x, 0, with(row.clone(), i, v));
                edges.due(v + " at " + i, x.baulk(0), i);
            }
        }
    }

    private void errataInTheirOrder(String text, long[] row) {
        MinuteBook x = Check.told(text);
        for (int i = 0; i < 6; i++) {
            Check.lay(x, 0, with(row.clone(), i, row[i] + (row[i] % 10 < 7 ? 1 : -1)));
            edges.due("another one at " + i, x.errata(0, -1), 1);
            edges.due("the right one at " + i, x.right(0, 0, i), row[i]);
            edges.due("those ahead can stay", x.back(0, -1), i);
            Check.lay(x, 0, with(many(6, row[5]), i, row[i]));
            edges.due("one alone is right at " + i, x.errata(0, -1), i == 5 ? 5 : 4);
        }
        Check.lay(x, 0, row);
        edges.due("all can stay", x.back(0, -1), 6);
    }

    private void lostInTheirOrder(String text, long[] row) {
        MinuteBook x = Check.told(text);
        Check.lay(x, 0, many(6, -1));
        for (int i = 0; i < 6; i++) {
            edges.due("in their order, " + i, x.sureMinute(0, i), row[i]);
            edges.due("who speaks at " + i, x.speakers(0, i), 1 << i);
        }
        for (int i = 0; i < 6; i++) {
            Check.lay(x, 0, with(many(6, -1), i, row[i]));
            edges.due("one told, " + i, x.lost(0), 1);
            Check.lay(x, 0, with(many(6, -1), i, row[(i + 1) % 6]));
            edges.due("another one told at " + i, x.lost(0), 0);
        }
    }

    /** Each member keeps the mark that is its number in the one row, but the first one, which may have any above 6. */
    private void keptInTheirOrder(String text, long[] row) {
        MinuteBook x = Check.told(text.replace("would : ", "would : [mark = who and who > 0 or who = 0 and mark > 6] and "));
        Check.lay(x, 0, row);
        for (int m = 0; m < 6; m++) {
            edges.due("of " + m + " in their order", x.kept(0, m), m == 0 ? 0b1110000000 : 1 << m);
        }
        Check.lay(x, 0, row[0], row[2], row[1]);
        for (int m = 0; m < 6; m++) {
            edges.due("of " + m + " out of their order", x.kept(0, m), m == 0 ? 0b1110000000 : m < 3 ? 0 : 1023);
        }
    }

    private void errataOfATray() {
        edges.says("ERRATA of a TRAY (1 to 12 MINUTES):");
        MinuteBook x = Check.told(PLAIN);
        sizes("errata", x, tray -> x.errata(tray, -1), 12);
        for (int n = 1; n <= 12; n++) {
            Check.lay(x, 0, many(n, 0));
            edges.due("of " + n + " ups two must cool", x.errata(0, -1), n == 1 ? -1 : 2);
        }
        edges.says("of all rows of as many MINUTES, from now on, at which nobody BAULKS and that are at an END with a TONE, that one in which the fewest are others than in the TRAY, of like ones the first.");
        MinuteBook y = Check.told(CORRIDOR);
        Check.lay(y, 0, 11, 11, 11);
        edges.due("right", y.errata(0, 0), 0);
        edges.due("as many minutes can't be at tone 1", y.errata(0, 1), -1);
        Check.lay(y, 0, 0, 0, 0, 0, 0, 11, 11, 11);
        edges.due("somebody baulks", y.errata(0, 5), 2);
        row("of like ones the first", i -> y.right(0, 5, i), 0, 0, 0, 0, 11, 11, 11, 0);
        edges.due("another tone: a fourth cool", y.errata(0, 4), 1);
        row("the first of these", i -> y.right(0, 4, i), 0, 0, 0, 0, 11, 11, 11, 11);
        y.say(0, 0);
        edges.due("from now on", y.errata(0, 5), 3);
        row("from now on", i -> y.right(0, 5, i), 0, 0, 0, 11, 11, 11, 11, 0);
        y.undo(1);
        y.mark(1, 9);
        edges.due("by another mark", y.errata(0, 5), 0);
    }

    private void row(String call, IntUnaryOperator minute, int... row) {
        for (int i = 0; i < row.length; i++) {
            edges.due(call + " " + i, minute.applyAsInt(i), row[i]);
        }
        edges.due(call + " behind the last", minute.applyAsInt(row.length), -1);
        edges.due(call + " most", minute.applyAsInt(MOST), -1);
    }

    private void lostInATray() {
        edges.says("LOST in a TRAY (1 to 10 MINUTES; NONE: lost): rows of as many MINUTES, so told, at none of which anybody BAULKS, that are at an END (any TONE).");
        MinuteBook x = Check.told(PLAIN);
        sizes("lost", x, x::lost, 10);
        MinuteBook y = Check.told("book tone 0 heat 0;member;member;saying up 1;saying down 1;saying warm 1;");
        long power = 1;
        for (int n = 1; n <= 10; n++) {
            power *= 4;
            Check.lay(y, 0, many(n, -1));
            edges.due(n + " lost", y.lost(0), power);
            Check.lay(y, 0, with(many(n, -1), n - 1, 10));
            edges.due("the last one told", y.lost(0), power / 4);
            Check.lay(y, 0, with(many(n, -1), 0, 2));
            edges.due("the first one told is at no end ever", y.lost(0), 0);
        }
        MinuteBook z = Check.told(CORRIDOR);
        Check.lay(z, 0, 0, 0, 0, 0, -1, -1, -1, -1);
        edges.due("three cools, then one more of either", z.lost(0), 2);
        Check.lay(z, 0, 0, 0, 0, 0, 0, -1, -1, -1);
        edges.due("nobody cools then", z.lost(0), 0);
        Check.lay(z, 0, 10, -1, -1, -1);
        edges.due("at what was told somebody baulks", z.lost(0), 0);
    }

    private void keptInATray() {
        edges.says("KEPT in a TRAY (1 to 12 MINUTES, SAID one behind the other from now on): MARKS 0 to 9 of a MEMBER by which (all others as they are) it BAULKS at none of its own (TONE, HEAT go as told, whoever else would BAULK).");
        MinuteBook x = Check.told(PLAIN);
        sizes("kept", x, tray -> x.kept(tray, 1), 12);
        for (int n = 0; n <= 9; n++) {
            MinuteBook y = Check.told("book tone " + n + " heat 1;member;member;saying;saying up 1;would : mark = tone;");
            Check.lay(y, 0, 0);
            edges.due("mark " + n, y.kept(0, 0), 1 << n);
            edges.due("of one who says nothing", y.kept(0, 1), 1023);
            Check.lay(y, 0, 11, 0);
            edges.due("tone goes as told, though 1 baulks", y.kept(0, 0), 1 << Math.min(9, n + 1));
            Check.lay(y, 0, 1, 0);
            edges.due("at none of its own", y.kept(0, 0), n == 9 ? 512 : 0);
        }
        MinuteBook z = Check.told("book tone 0 heat 9;member mark 9;member mark 9;saying warm 1;saying cool 1;would : mark > heat - 5 and not last = who;");
        Check.lay(z, 0, 1, 11, 1, 11, 1, 11, 1, 11, 1, 11, 1, 11);
        edges.due("twelve, of 0", z.kept(0, 0), 0b1111100000);
        edges.due("twelve, of 1", z.kept(0, 1), 0b1111110000);
        z.say(1, 1);
        edges.due("from now on", z.kept(0, 0), 0b1111110000);
        z.say(0, 1);
        edges.due("it spoke last now", z.kept(0, 0), 0);
    }

    private void trays() {
        edges.says("TRAYS 0 to 3 are MISSING at first, or have 0 to 40 numbers of 8 bits (sort 0), 16 (1), 32 (2), 64 (3).");
        MinuteBook x = Check.told(PLAIN);
        noTray("perform", x::perform);
        for (int sort = 0; sort < 4; sort++) {
            int bits = 8 << sort;
            long most = Long.MAX_VALUE >>> 64 - bits;
            edges.due("40 numbers", x.numbers(sort, sort, 40), 0);
            edges.due("the last one", x.write(sort, 39, most), most);
            edges.due("the greatest", x.write(sort, 0, most), most);
            edges.due("one more", x.write(sort, 1, most + 1), -most - 1);
            edges.due("the least", x.write(sort, 2, -most - 1), -most - 1);
            edges.due("one less", x.write(sort, 3, -most - 2), most);
            edges.due("NONE", x.write(sort, 4, -1), -1);
            edges.due("no 41st", x.write(sort, 40, 1), -7);
            edges.due("41 numbers", x.numbers(sort, sort, 41), -3);
            edges.due("no numbers", x.numbers(sort, sort, 0), 0);
            edges.due("no first", x.write(sort, 0, 1), -7);
            edges.due("but not missing", x.perform(sort), 0);
        }
    }

    private void promise26() {
        edges.promise(26);
        edges.says("The first place in a TRAY (MINUTES, one behind the other) at which somebody BAULKS.");
        MinuteBook x = Check.told(CORRIDOR);
        Check.lay(x, 0, 10, 10);
        edges.due("the first", x.baulk(0), 0);
        Check.lay(x, 0, 0, 0, 0, 0, 0, 11);
        edges.due("one behind the other", x.baulk(0), 5);
        Check.lay(x, 0, with(many(12, 0), 11, 11));
        edges.due("the twelfth", x.baulk(0), 11);
        Check.lay(x, 0, 0, 1, 10, 1);
        edges.due("the first of some", x.baulk(0), 1);
        for (int n = 0; n < 2; n++) {
            baulkInTheirOrder(ROUNDS[n], IN_THEIR_ORDER[n]);
        }
        edges.says("NONE: nobody;");
        Check.lay(x, 0, many(12, 0));
        edges.due("nobody", x.baulk(0), -1);
        Check.lay(x, 0, 11);
        edges.due("nobody, of one", x.baulk(0), -1);
        edges.says("-2: the TRAY; -6; -4: not 1 to 12 numbers; -3: one is no MINUTE.");
        MinuteBook y = Check.told(PLAIN);
        noTray("baulk", y::baulk);
        sizes("baulk", y, y::baulk, 12);
        values("baulk", y, y::baulk, 12, false);
        wideValues("baulk", MinuteBook::baulk, 12, false);
    }

    /** The codes of errata(), right() and back(), in their order. */
    private void errataRefusals(String call, java.util.function.IntBinaryOperator by, MinuteBook x) {
        noTray(call, tray -> by.applyAsInt(tray, -1));
        for (int tone : OUT_OF_TONES) {
            edges.due(call + "(4, " + tone + ")", by.applyAsInt(4, tone), -2);
            edges.due(call + ", missing, tone " + tone, by.applyAsInt(3, tone), -6);
        }
        sizes(call, x, tray -> by.applyAsInt(tray, -1), 12);
        values(call, x, tray -> by.applyAsInt(tray, -1), 12, false);
        for (int tone : OUT_OF_TONES) {
            Check.lay(x, 0, many(13, 0));
            edges.due(call + " of 13, tone " + tone, by.applyAsInt(0, tone), -4);
            Check.lay(x, 0, many(12, 0));
            edges.due(call + " of 12, tone " + tone, by.applyAsInt(0, tone), -3);
        }
        for (int tone = -1; tone <= 9; tone++) {
            edges.due(call + " of tone " + tone + " is refused", by.applyAsInt(0, tone) < -1 ? 1 : 0, 0);
        }
    }

    private void promise27() {
        edges.promise(27);
        edges.says("ERRATA: how many MINUTES.");
        MinuteBook x = Check.told(CORRIDOR);
        Check.lay(x, 0, 11, 11, 11);
        edges.due("none", x.errata(0, -1), 0);
        Check.lay(x, 0, 10, 11, 1, 11);
        edges.due("two", x.errata(0, -1), 2);
        Check.lay(x, 0, many(12, 10));
        edges.due("all twelve", x.errata(0, 9), 12);
        for (int n = 0; n < 2; n++) {
            errataInTheirOrder(ROUNDS[n], IN_THEIR_ORDER[n]);
        }
        edges.says("NONE: there is no such row;");
        Check.lay(x, 0, 11, 11);
        edges.due("too few", x.errata(0, -1), -1);
        Check.lay(x, 0, 11, 11, 11);
        edges.due("not with this tone", x.errata(0, 1), -1);
        edges.says("-2, -6, -4, -3 likewise; -3: also the TONE.");
        MinuteBook y = Check.told(PLAIN);
        errataRefusals("errata", y::errata, y);
        wideValues("errata", (z, tray) -> z.errata(tray, -1), 12, false);
    }

    private void promise28() {
        edges.promise(28);
        edges.says("The i-th MINUTE of the row that is right then.");
        MinuteBook x = Check.told(CORRIDOR);
        Check.lay(x, 0, 10, 1, 0, 11);
        row("right(0, 1, i)", i -> x.right(0, 1, i), 11, 11, 0, 11);
        Check.lay(x, 0, many(12, 10));
        row("of twelve", i -> x.right(0, 9, i), 0, 0, 0, 0, 11, 11, 11, 0, 0, 0, 0, 0);
        edges.says("NONE: there is none such, there is no such row;");
        edges.due("right(0, 9, 11)", x.right(0, 9, 11), 0);
        edges.due("right(0, 9, 12)", x.right(0, 9, 12), -1);
        Check.lay(x, 0, 11, 11);
        row("no such row", i -> x.right(0, -1, i));
        edges.says("as errata(); -3: also i is below 0.");
        MinuteBook y = Check.told(PLAIN);
        errataRefusals("right", (tray, tone) -> y.right(tray, tone, 0), y);
        wideValues("right", (z, tray) -> z.right(tray, -1, 0), 12, false);
        MinuteBook z = Check.told(PLAIN);
        errataRefusals("right of no such place", (tray, tone) -> z.right(tray, tone, 99), z);
        for (int i : new int[] {-1, LEAST}) {
            edges.due("right(0, -1, " + i + "), no such row", x.right(0, -1, i), -3);
            edges.due("right(4, -1, " + i + ")", x.right(4, -1, i), -2);
            edges.due("right(3, -1, " + i + ")", x.right(3, -1, i), -6);
            Check.lay(x, 1, many(13, 0));
            edges.due("of 13, i " + i, x.right(1, -1, i), -4);
        }
    }

    private void promise29() {
        edges.promise(29);
        edges.says("How many of its first MINUTES can stay at most so that a row of as many in all has an END with a TONE.");
        MinuteBook x = Check.told(CORRIDOR);
        Check.lay(x, 0, 11, 11, 11);
        edges.due("all", x.back(0, 0), 3);
        Check.lay(x, 0, 0, 11, 11, 0);
        edges.due("all but the last", x.back(0, 1), 3);
        edges.due("none", x.back(0, 0), 0);
        Check.lay(x, 0, 11, 10, 11, 11);
        edges.due("somebody baulks: one", x.back(0, 1), 1);
        Check.lay(x, 0, 0, 0, 0, 0, 0, 11, 11, 11);
        edges.due("four, for the fifth up ends it", x.back(0, 5), 4);
        Check.lay(x, 0, 11, 11, 11, 0, 0, 0, 0, 0, 0, 0, 0, 0);
        edges.due("all twelve", x.back(0, 9), 12);
        edges.says("NONE: there is no such row; as errata().");
        Check.lay(x, 0, 11, 11);
        edges.due("too few", x.back(0, -1), -1);
        MinuteBook y = Check.told(PLAIN);
        errataRefusals("back", y::back, y);
        wideValues("back", (z, tray) -> z.back(tray, -1), 12, false);
    }

    private void promise30() {
        edges.promise(30);
        edges.says("LOST: how many rows.");
        MinuteBook x = Check.told(CORRIDOR);
        Check.lay(x, 0, -1, -1, -1, -1);
        edges.due("all of four", x.lost(0), 5);
        Check.lay(x, 0, 11, 11, 11);
        edges.due("none lost", x.lost(0), 1);
        Check.lay(x, 0, 11, 11);
        edges.due("no rows", x.lost(0), 0);
        MinuteBook wide = Check.told(WIDE);
        Check.lay(wide, 0, many(10, -1));
        edges.due("48 to the 10th", wide.lost(0), 64925062108545024L);
        edges.says("-2: the TRAY; -6; -4: not 1 to 10 numbers; -3: one is no MINUTE, nor NONE.");
        MinuteBook y = Check.told(PLAIN);
        noTray("lost", y::lost);
        sizes("lost", y, y::lost, 10);
        values("lost", y, y::lost, 10, true);
        wideValues("lost", MinuteBook::lost, 10, true);
    }

    private void placeRefusals(String call, java.util.function.IntBinaryOperator by, MinuteBook x) {
        noTray(call, tray -> by.applyAsInt(tray, 0));
        edges.due(call + "(4, -1)", by.applyAsInt(4, -1), -2);
        edges.due(call + "(3, -1)", by.applyAsInt(3, -1), -6);
        sizes(call, x, tray -> by.applyAsInt(tray, 0), 10);
        values(call, x, tray -> by.applyAsInt(tray, 0), 10, true);
        for (int n = 1; n <= 10; n++) {
            Check.lay(x, 0, many(n, -1));
            for (int place = 0; place < n; place++) {
                edges.due(call + " of " + n + " at " + place + " is refused", by.applyAsInt(0, place) < -1 ? 1 : 0, 0);
            }
            for (int place : new int[] {-1, n, LEAST, MOST}) {
                edges.due(call + " of " + n + " at " + place, by.applyAsInt(0, place), -7);
            }
        }
        Check.lay(x, 0, many(11, -1));
        edges.due(call + " of 11 at 11", by.applyAsInt(0, 11), -4);
        Check.lay(x, 0, 99);
        edges.due(call + " of what is no minute at 1", by.applyAsInt(0, 1), -3);
    }

    private void promise31() {
        edges.promise(31);
        edges.says("The MINUTE that is at a place in all of these rows (NONE: there is none such, no rows).");
        MinuteBook x = Check.told(CORRIDOR);
        Check.lay(x, 0, -1, 0, -1, -1);
        edges.due("place 0", x.sureMinute(0, 0), 11);
        edges.due("place 1, told", x.sureMinute(0, 1), 0);
        edges.due("place 3", x.sureMinute(0, 3), 11);
        Check.lay(x, 0, -1, -1, -1, -1);
        for (int place = 0; place < 4; place++) {
            edges.due("either, place " + place, x.sureMinute(0, place), -1);
        }
        Check.lay(x, 0, -1, 0, 0, -1);
        edges.due("no rows", x.sureMinute(0, 0), -1);
        edges.due("no rows, told", x.sureMinute(0, 1), -1);
        MinuteBook last = Check.told("book tone 0 heat 0;" + "member;".repeat(6) + "saying;".repeat(8) + "closes : last = 5 and tone = 0;would : saying = 7;");
        Check.lay(last, 0, many(10, -1));
        edges.due("the last of ten", last.sureMinute(0, 9), 57);
        edges.due("the ninth of ten", last.sureMinute(0, 8), -1);
        for (int n = 0; n < 2; n++) {
            lostInTheirOrder(ROUNDS[n], IN_THEIR_ORDER[n]);
        }
        MinuteBook two = Check.told("book tone 0 heat 1;member;saying up 1;saying;saying;would : saying = 0 and tone = 0 or saying = 2 and tone = 1;closes : tone = 1;");
        Check.lay(two, 0, -1, -1);
        edges.due("what can be at the second place alone", two.sureMinute(0, 0), 0);
        edges.due("the second place", two.sureMinute(0, 1), 2);
        edges.says("As lost(); -7: no such place.");
        MinuteBook y = Check.told(PLAIN);
        placeRefusals("sureMinute", y::sureMinute, y);
        wideValues("sureMinute", (z, tray) -> z.sureMinute(tray, 0), 10, true);
        Check.lay(x, 0, -1, 0, 0, -1);
        edges.due("no rows, no such place", x.sureMinute(0, 4), -7);
    }

    private void promise32() {
        edges.promise(32);
        edges.says("MEMBERS who may have spoken at a place, as bits.");
        MinuteBook x = Check.told(CORRIDOR);
        Check.lay(x, 0, -1, 0, -1, -1);
        edges.due("place 0", x.speakers(0, 0), 2);
        edges.due("place 1", x.speakers(0, 1), 1);
        Check.lay(x, 0, -1, -1, -1, -1);
        edges.due("either", x.speakers(0, 3), 3);
        Check.lay(x, 0, -1, -1, -1);
        edges.due("one alone", x.speakers(0, 2), 2);
        Check.lay(x, 0, -1, 0, 0, -1);
        edges.due("no rows", x.speakers(0, 0), 0);
        MinuteBook wide = Check.told(WIDE);
        Check.lay(wide, 0, many(10, -1));
        edges.due("all, the first of ten", wide.speakers(0, 0), 63);
        edges.due("all, the last of ten", wide.speakers(0, 9), 63);
        edges.says("As lost(); -7: no such place.");
        MinuteBook y = Check.told(PLAIN);
        placeRefusals("speakers", y::speakers, y);
        wideValues("speakers", (z, tray) -> z.speakers(tray, 9), 10, true);
        Check.lay(x, 0, -1, 0, 0, -1);
        edges.due("no rows, no such place", x.speakers(0, 4), -7);
    }

    /** The codes of kept() and attempt(), in their order. */
    private void keptRefusals(String call, java.util.function.IntBinaryOperator by, MinuteBook x) {
        noTray(call, tray -> by.applyAsInt(tray, 0));
        for (int m : new int[] {-1, 2, 6, LEAST, MOST}) {
            edges.due(call + "(0, " + m + "), missing", by.applyAsInt(0, m), -2);
            edges.due(call + "(4, " + m + ")", by.applyAsInt(4, m), -2);
        }
        sizes(call, x, tray -> by.applyAsInt(tray, 0), 12);
        values(call, x, tray -> by.applyAsInt(tray, 0), 12, false);
        for (int m : new int[] {-1, 2, 6, LEAST, MOST}) {
            Check.lay(x, 0, 0);
            edges.due(call + "(0, " + m + ")", by.applyAsInt(0, m), -2);
            Check.lay(x, 0, many(13, 99));
            edges.due(call + "(0, " + m + ") of 13", by.applyAsInt(0, m), -2);
        }
        Check.lay(x, 0, 0);
        edges.due(call + " of member 1 is refused", by.applyAsInt(0, 1) < -1 ? 1 : 0, 0);
    }

    private void promise33() {
        edges.promise(33);
        edges.says("KEPT: MARKS of a MEMBER, as bits.");
        MinuteBook x = Check.told(CORRIDOR);
        Check.lay(x, 0, 11, 0, 0, 11);
        edges.due("above 2", x.kept(0, 1), 0b1111111000);
        edges.due("any", x.kept(0, 0), 1023);
        Check.lay(x, 0, 0, 0, 0, 0, 0, 0, 0, 0, 11);
        edges.due("9 alone", x.kept(0, 1), 512);
        Check.lay(x, 0, 0, 0, 0, 0, 0, 0, 0, 0, 0, 11);
        edges.due("none", x.kept(0, 1), 0);
        for (int n = 0; n < 2; n++) {
            keptInTheirOrder(ROUNDS[n], IN_THEIR_ORDER[n]);
        }
        edges.says("-2: the TRAY, the MEMBER; -6; -4: not 1 to 12 numbers; -3: one is no MINUTE.");
        MinuteBook y = Check.told(PLAIN);
        keptRefusals("kept", y::kept, y);
        wideValues("kept", (z, tray) -> z.kept(tray, 5), 12, false);
    }

    private void promise34() {
        edges.promise(34);
        edges.says("The SAYING to try on it now: the lesser number of these MARKS by which it WOULD, or wouldn't, is greatest, the first.");
        MinuteBook x = Check.told("book tone 0 heat 1;member;member;saying;saying;saying;saying;saying;saying;saying;saying up 1;would : mark > saying or saying = 7;");
        Check.lay(x, 0, 7);
        edges.due("any mark", x.kept(0, 0), 1023);
        edges.due("five of ten by 4", x.attempt(0, 0), 4);
        Check.lay(x, 0, 3);
        edges.due("marks 4 to 9: three of six by 6", x.attempt(0, 0), 6);
        Check.lay(x, 0, 4);
        edges.due("marks 5 to 9: two of five by 6, too", x.attempt(0, 0), 6);
        MinuteBook like = Check.told("book tone 0 heat 1;member;saying;saying;saying;would : saying = 0 and mark < 2 or saying = 1 and mark < 3 or saying = 2 and mark > 6;");
        Check.lay(like, 0, 0);
        edges.due("by 0 none is told apart, by 1 neither: the first", like.attempt(0, 0), 0);
        MinuteBook now = Check.told("book tone 0 heat 1;member;saying up 5;saying;would : saying = 0 or mark < tone;");
        Check.lay(now, 0, 0);
        edges.due("now, not behind the tray", now.attempt(0, 0), 0);
        now.say(0, 0);
        edges.due("now that tone is 5", now.attempt(0, 0), 1);
        MinuteBook one = Check.told("book tone 0 heat 1;member;saying;would : mark > saying;");
        Check.lay(one, 0, 0);
        edges.due("there is no saying 1", one.attempt(0, 0), 0);
        edges.says("NONE: there are no SAYINGS, no such MARKS; as kept().");
        MinuteBook mute = Check.told("book tone 0 heat 1;member;");
        edges.due("no sayings, no tray", mute.attempt(0, 0), -6);
        Check.lay(mute, 0, 0);
        edges.due("no sayings: 0 is no minute", mute.attempt(0, 0), -3);
        MinuteBook none = Check.told("book tone 0 heat 1;member;saying;saying;would : saying = 0 and mark < 5;");
        Check.lay(none, 0, 1);
        edges.due("no such marks", none.attempt(0, 0), -1);
        Check.lay(none, 0, 0);
        edges.due("one half", none.attempt(0, 0), 0);
        MinuteBook y = Check.told(PLAIN);
        keptRefusals("attempt", y::attempt, y);
        wideValues("attempt", (z, tray) -> z.attempt(tray, 0), 12, false);
    }

    private void promise40() {
        edges.promise(40);
        edges.says("A TRAY has n numbers of a sort, all 0 (in place of another one): 0.");
        MinuteBook x = Check.told(PLAIN);
        for (int tray = 0; tray < 4; tray++) {
            for (int sort = 0; sort < 4; sort++) {
                edges.due("40 numbers", x.numbers(tray, sort, 40), 0);
                for (int i : new int[] {0, 1, 39}) {
                    x.write(tray, i, 99);
                }
                edges.due("3 numbers in their place", x.numbers(tray, sort, 3), 0);
                edges.due("all 0", x.judge(tray, 2), 82);
                edges.due("no more of them", x.write(tray, 3, 1), -7);
                edges.due("40 numbers again", x.numbers(tray, sort, 40), 0);
                edges.due("all 0", x.judge(tray, 0), -1);
            }
        }
        edges.says("-2: no such TRAY, sort; -3, and the TRAY stays: n is below 0 or above 40.");
        MinuteBook y = Check.told(PLAIN);
        for (int tray : OUT_OF_TRAYS) {
            edges.due("numbers(" + tray + ", 0, 1)", y.numbers(tray, 0, 1), -2);
            edges.due("numbers(" + tray + ", 4, 41)", y.numbers(tray, 4, 41), -2);
            edges.due("numbers(0, " + tray + ", 1)", y.numbers(0, tray, 1), -2);
            edges.due("numbers(0, " + tray + ", 41)", y.numbers(0, tray, 41), -2);
        }
        edges.due("missing still", y.write(0, 0, 1), -6);
        for (int n : new int[] {-1, 41, LEAST, MOST}) {
            edges.due("numbers(0, 0, " + n + ")", y.numbers(0, 0, n), -3);
            edges.due("missing still", y.write(0, 0, 1), -6);
        }
        Check.lay(y, 0, 12, 104, 0);
        for (int n : new int[] {-1, 41, LEAST, MOST}) {
            edges.due("numbers(0, 0, " + n + ")", y.numbers(0, 0, n), -3);
        }
        edges.due("the tray stays", y.judge(0, 2), 43);
        edges.due("its sort, too", y.write(0, 2, 40000), 40000);
        edges.due("its size, too", y.write(0, 3, 1), -7);
    }

    private void promise41() {
        edges.promise(41);
        edges.says("Number i of a TRAY is v, cut to its sort: as it is there.");
        MinuteBook x = Check.told(PLAIN);
        long[] values = {0, 1, -1, 127, 128, 255, 256, -128, -129, 32767, 32768, 65535, 65536, -32768, -32769, MOST, MOST + 1L, LEAST, LEAST - 1L,
            0xffffffffL, 1L << 32, Long.MAX_VALUE, Long.MIN_VALUE, 0x123456789abcdef0L};
        for (int sort = 0; sort < 4; sort++) {
            x.numbers(sort, sort, 2);
            for (long v : values) {
                long cut = sort == 0 ? (byte) v : sort == 1 ? (short) v : sort == 2 ? (int) v : v;
                edges.due("write " + v + " of sort " + sort, x.write(sort, 1, v), cut);
            }
            x.write(sort, 1, 256 + 12);
            edges.due("as it is there", x.judge(sort, 0), sort == 0 ? -1 : 1);
            x.write(sort, 1, (1L << 32) + 12);
            edges.due("as it is there", x.judge(sort, 0), sort < 3 ? -1 : 1);
        }
        edges.says("-2: no such TRAY; -6; -7.");
        MinuteBook y = Check.told(PLAIN);
        noTray("write", tray -> y.write(tray, 0, 5));
        noTray("write at -1", tray -> y.write(tray, -1, 5));
        for (int n : new int[] {0, 1, 39, 40}) {
            y.numbers(2, 0, n);
            for (int i : new int[] {-1, n, LEAST, MOST}) {
                edges.due("write(2, " + i + ", 5) of " + n, y.write(2, i, 5), -7);
            }
            edges.due("write of the last", n == 0 ? 5 : y.write(2, n - 1, 5), 5);
        }
    }

    private void promise42() {
        edges.promise(42);
        edges.says("SHORTEST MINUTES to an END with a TONE come into a TRAY, as far as it has places: how many.");
        for (int sort = 0; sort < 4; sort++) {
            for (int n = 0; n <= 6; n++) {
                MinuteBook x = Check.told(CORRIDOR);
                x.numbers(1, sort, n);
                for (int i = 0; i < n; i++) {
                    x.write(1, i, 99);
                }
                edges.due("four in " + n + " places", x.lists(1, 1), Math.min(4, n));
                edges.due("what came can be", x.judge(1, 0), n > 4 ? 4 : -1);
                edges.due("the mood then", x.judge(1, 2), n == 0 ? 3 : 14 - Math.min(4, n));
                edges.due("the end", x.judge(1, 3), n >= 4 ? 1 : 0);
            }
        }
        MinuteBook far = Check.told(MinuteEdges.LONG);
        far.numbers(0, 0, 40);
        edges.due("40 of 600", far.lists(0, -1), 40);
        edges.due("they can all be", far.perform(0), 40);
        for (int i = 0; i < 14; i++) {
            edges.due("40 more", far.lists(0, 9), 40);
            far.perform(0);
        }
        edges.due("the end of 600", far.closed(), 1);
        edges.due("one now", far.lists(0, 9), 0);
        edges.due("the tray stays then", far.judge(0, 1), 2);
        edges.says("-2: the TRAY; -6; -3: the TONE; -5: there are none.");
        MinuteBook y = Check.told(CORRIDOR);
        noTray("lists", tray -> y.lists(tray, -1));
        noTray("lists of tone 10", tray -> y.lists(tray, 10));
        y.mark(1, 0);
        y.numbers(0, 0, 1);
        y.write(0, 0, 99);
        for (int tone : OUT_OF_TONES) {
            edges.due("lists(0, " + tone + ")", y.lists(0, tone), -3);
        }
        for (int tone = -1; tone <= 9; tone++) {
            edges.due("there are none", y.lists(0, tone), -5);
        }
        edges.due("the tray stays", y.judge(0, 1), 1);
        y.mark(1, 1);
        edges.due("there are some", y.lists(0, 9), 1);
        edges.due("the tray has them", y.judge(0, 1), 0);
    }
}
