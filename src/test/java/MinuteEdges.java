import java.util.function.IntBinaryOperator;
import java.util.function.IntUnaryOperator;

/** Edges of the searches for minutes; promises 16 to 25. */
final class MinuteEdges {
    private static final int LEAST = Integer.MIN_VALUE;
    private static final int MOST = Integer.MAX_VALUE;
    private static final int[] OUT_OF_TONES = {-2, -3, 10, 11, LEAST, MOST};
    /** Member 0 turns the tone up, member 1 cools as long as its mark is above the tone. */
    static final String CORRIDOR = "book tone 0 heat 3;member;member mark 5;saying up 1;saying cool 1;"
        + "would : who = 0 and saying = 0 or who = 1 and saying = 1 and mark > tone;closes : heat = 0;";
    /** One way alone, of 600 minutes, through all tones and heats and members: there is no longer one. */
    static final String LONG = "book tone 0 heat 0;" + "member;".repeat(6) + "saying;saying up 1;saying down 9 warm 1;"
        + "would : saying = 0 and [last = 9 and who = 0 or who = last + 1] or last = 5 and who = 0 and "
        + "[saying = 1 and tone < 9 or saying = 2 and tone = 9];closes : tone = 9 and heat = 9 and last = 5;";

    private final Edges edges;

    MinuteEdges(Edges edges) {
        this.edges = edges;
    }

    /** The i-th minute of the long way. */
    static int longMinute(int i) {
        if (i % 6 != 0) {
            return i % 6 * 10;
        }
        return i == 0 ? 0 : (i / 6 - 1) % 10 == 9 ? 2 : 1;
    }

    void run() {
        edges.terms();
        rowsFromNowOn();
        ends();
        shortestOnes();
        fullOnes();
        calmestOnes();
        promise16();
        promise17();
        promise18();
        promise19();
        promise20();
        promise21();
        promise22();
        promise23();
        promise24();
        promise25();
    }

    /** No tone but 0 to 9 and NONE, as everywhere. */
    private void tones(String call, IntUnaryOperator by) {
        for (int tone = -1; tone <= 9; tone++) {
            edges.due(call + " of tone " + tone + " is refused", by.applyAsInt(tone) < -1 ? 1 : 0, 0);
        }
        for (int tone : OUT_OF_TONES) {
            edges.due(call + " of tone " + tone, by.applyAsInt(tone), -3);
        }
    }

    private void row(String call, IntUnaryOperator minute, int... row) {
        for (int i = 0; i < row.length; i++) {
            edges.due(call + " " + i, minute.applyAsInt(i), row[i]);
        }
        edges.due(call + " behind the last", minute.applyAsInt(row.length), -1);
        edges.due(call + " most", minute.applyAsInt(MOST), -1);
    }

    private void rowsFromNowOn() {
        edges.says("MINUTES: a row of MINUTES from now on, one behind the other, at none of which anybody BAULKS.");
        MinuteBook x = Check.told("book tone 0 heat 9;member;member;saying up 1;saying up 2;would : not who = last;closes : tone = 5;");
        row("by turns", i -> x.minute(-1, i), 0, 11, 1);
        x.say(0, 1);
        row("from now on", i -> x.minute(-1, i), 10, 1);
        x.say(1, 0);
        row("from then on", i -> x.minute(-1, i), 1);
        x.say(0, 1);
        row("it is one now", i -> x.minute(-1, i));
    }

    private void ends() {
        edges.says("An END with a TONE (NONE: any): the sitting CLOSES with it.");
        for (int at = 0; at <= 9; at++) {
            MinuteBook x = Check.told("book tone " + at + " heat 0;");
            MinuteBook y = Check.told("book tone " + at + " heat 1;");
            for (int tone = -1; tone <= 9; tone++) {
                edges.due("tone " + at + " closed, for " + tone, x.shortest(tone), tone == at || tone == -1 ? 0 : -1);
                edges.due("tone " + at + " open, for " + tone, y.shortest(tone), -1);
                edges.due("rows of none, for " + tone, x.rows(tone, 0), tone == at || tone == -1 ? 1 : 0);
                edges.due("rows of none, open, for " + tone, y.rows(tone, 0), 0);
            }
        }
    }

    private void shortestOnes() {
        edges.says("SHORTEST: of all MINUTES to an END the fewest, of like ones the first, MINUTE by MINUTE (none, if it is one now).");
        MinuteBook x = Check.told("book tone 0 heat 0;member;saying up 1;saying up 2;saying up 4;");
        row("tone 0 is now", i -> x.minute(0, i));
        row("tone 3 by 0, 1 ahead of 1, 0", i -> x.minute(3, i), 0, 1);
        row("tone 5", i -> x.minute(5, i), 0, 2);
        row("tone 7", i -> x.minute(7, i), 0, 1, 2);
        row("tone 8", i -> x.minute(8, i), 2, 2);
        row("tone 9 by 1, 2, 2: it can't be above", i -> x.minute(9, i), 0, 2, 2);
        MinuteBook y = Check.told("book tone 0 heat 1;member;member;saying;saying cool 1;saying cool 2;would : who = 1 or saying = 2;");
        row("the member first, then the saying", i -> y.minute(-1, i), 2);
        MinuteBook z = Check.told("book tone 0 heat 1;member;member;saying up 1;saying up 1;saying cool 1;"
            + "would : tone = 0 and saying < 2 or tone = 1 and last = 1 and saying = 2 or tone = 1 and last = 0 and who = 1 and saying = 2;");
        row("of like ones the first by its first minute", i -> z.minute(-1, i), 0, 12);
    }

    private void fullOnes() {
        edges.says("FULL: likewise of those in which each MEMBER speaks once at least.");
        for (int members = 0; members <= 6; members++) {
            MinuteBook x = Check.told("book tone 0 heat 0;" + "member;".repeat(members) + "saying;");
            edges.due(members + " members", x.full(0), members);
            for (int i = 0; i < members; i++) {
                edges.due("in their order", x.fullMinute(0, i), 10 * i);
            }
            edges.due("no more", x.fullMinute(0, members), -1);
            edges.due("with another tone", x.full(1), -1);
        }
        MinuteBook y = Check.told("book tone 0 heat 2;member;member;member;saying cool 1;saying warm 1;would : who = 0 or saying = 1;");
        edges.due("shortest", y.shortest(-1), 2);
        row("one of them more than once", i -> y.fullMinute(-1, i), 0, 0, 11, 0, 21, 0);
        MinuteBook z = Check.told("book tone 0 heat 0;member;member;saying;would : who = 0;");
        edges.due("one never speaks", z.full(-1), -1);
        edges.due("without it", z.shortest(-1), 0);
        String all = "book tone 0 heat 9;" + "member;".repeat(6) + "saying up 1;saying cool 1;saying down 1;saying warm 1;closes : ";
        edges.due("no end among all that can be", Check.told(all + "1 = 2;").full(-1), -1);
        edges.due("an end far off", Check.told(all + "tone = 9 and heat = 0 and last = 5;").full(-1), 18);
    }

    private void calmestOnes() {
        edges.says("CALMEST: of all those by which HEAT, now and behind each of them, is at its greatest least, the fewest, of like ones the first.");
        edges.due("now", Check.told("book tone 0 heat 8;member;saying cool 9 up 1;closes : tone = 1;").calmest(-1, 0), 8);
        edges.due("behind the last", Check.told("book tone 0 heat 0;member;saying warm 9 up 1;closes : tone = 1;").calmest(-1, 0), 9);
        edges.due("between", Check.told("book tone 0 heat 0;member;saying warm 7;saying cool 9 up 1;would : saying = 0 or heat > 6;closes : tone = 1;")
            .calmest(-1, 0), 7);
        MinuteBook x = Check.told("book tone 0 heat 1;member;member;saying up 2 warm 2;saying up 1 warm 1;saying cool 1;saying cool 1;closes : tone = 2;");
        edges.due("shortest", x.shortest(-1), 1);
        edges.due("greatest heat", x.calmest(-1, 0), 1);
        edges.due("the fewest of these", x.calmest(-1, 1), 4);
        row("the first of these", i -> x.calmest(-1, i < 20 ? 10 + i : 29), 2, 1, 2, 1);
        MinuteBook y = Check.told("book tone 0 heat 5;member;saying up 1;saying up 1 cool 1;saying up 2 warm 1;closes : tone = 2;");
        row("like ones", i -> y.calmest(-1, i < 20 ? 10 + i : 29), 0, 0);
    }

    private void promise16() {
        edges.promise(16);
        edges.says("SHORTEST to an END with a TONE: how many MINUTES.");
        MinuteBook x = Check.told(CORRIDOR);
        edges.due("any tone", x.shortest(-1), 3);
        for (int tone = 0; tone <= 9; tone++) {
            edges.due("tone " + tone, x.shortest(tone), 3 + tone);
        }
        edges.due("600", Check.told(LONG).shortest(9), 600);
        edges.due("600, any tone", Check.told(LONG).shortest(-1), 600);
        edges.says("NONE: there are none;");
        edges.due("no such tone at the end", Check.told(LONG).shortest(8), -1);
        edges.due("a new object", new MinuteBook().shortest(9), -1);
        x.mark(1, 0);
        edges.due("all baulk", x.shortest(-1), -1);
        edges.says("-3: the TONE (0 to 9, NONE; as everywhere).");
        tones("shortest", Check.told(CORRIDOR)::shortest);
        tones("shortest, there are none", x::shortest);
    }

    private void negativePlaces(String call, IntBinaryOperator by) {
        for (int i : new int[] {-1, -2, LEAST}) {
            edges.due(call + "(-1, " + i + ")", by.applyAsInt(-1, i), -3);
            edges.due(call + "(10, " + i + ")", by.applyAsInt(10, i), -3);
        }
    }

    private void promise17() {
        edges.promise(17);
        edges.says("The i-th MINUTE of these.");
        MinuteBook x = Check.told(CORRIDOR);
        row("minute(5, i)", i -> x.minute(5, i), 0, 0, 0, 0, 11, 11, 11, 0);
        for (int from = 0; from < 600; from += 300) {
            MinuteBook y = Check.told(LONG);
            for (int i = from; i < from + 300; i++) {
                edges.due("of the long way, " + i, y.minute(-1, i), longMinute(i));
            }
        }
        edges.says("NONE: not so many, there are none;");
        MinuteBook z = Check.told(LONG);
        edges.due("599", z.minute(9, 599), 50);
        edges.due("600", z.minute(9, 600), -1);
        edges.due("there are none", z.minute(8, 0), -1);
        edges.due("it is one now", new MinuteBook().minute(0, 0), -1);
        edges.says("-3: also i is below 0.");
        negativePlaces("minute", x::minute);
        tones("minute", tone -> x.minute(tone, 0));
        edges.due("there are none, i below 0", z.minute(8, -1), -3);
        edges.due("it is one now, i below 0", new MinuteBook().minute(0, -1), -3);
    }

    private void promise18() {
        edges.promise(18);
        edges.says("How many rows of just n MINUTES (0 to 10) are at an END with a TONE behind them.");
        MinuteBook x = Check.told("book tone 0 heat 0;" + "member;".repeat(6) + "saying;".repeat(8));
        long power = 1;
        for (int n = 0; n <= 10; n++) {
            edges.due("48 to the " + n, x.rows(0, n), power);
            edges.due("with another tone", x.rows(1, n), 0);
            power *= 48;
        }
        MinuteBook y = Check.told("book tone 0 heat 0;member;saying up 1;saying;");
        long[] choose = {1, 10, 45, 120, 210, 252, 210, 120, 45};
        for (int tone = 0; tone <= 8; tone++) {
            edges.due("ten of which go up " + tone, y.rows(tone, 10), choose[tone]);
        }
        edges.due("nine or ten", y.rows(9, 10), 11);
        edges.due("any", y.rows(-1, 10), 1024);
        MinuteBook z = Check.told("book tone 0 heat 1;member;saying cool 1;saying;would : heat > 0;");
        edges.due("just one", z.rows(-1, 1), 1);
        edges.due("an end on the way has no minute behind it", z.rows(-1, 2), 1);
        edges.due("none", z.rows(-1, 0), 0);
        edges.says("-3.");
        for (int n : new int[] {-1, 11, 12, LEAST, MOST}) {
            edges.due("rows(0, " + n + ")", x.rows(0, n), -3);
        }
        tones("rows", tone -> (int) z.rows(tone, 10));
    }

    private void promise19() {
        edges.promise(19);
        edges.says("SHORTEST, a told MEMBER saying nothing: how many.");
        MinuteBook x = Check.told("book tone 0 heat 6;member;member;member;saying cool 1;saying cool 2;saying cool 3;would : who = saying;");
        edges.due("shortest", x.shortest(-1), 2);
        edges.due("without 0", x.without(0, -1), 2);
        edges.due("without 1", x.without(1, -1), 2);
        edges.due("without 2", x.without(2, -1), 3);
        edges.due("one now", Check.told("book tone 3 heat 0;member;").without(0, 3), 0);
        edges.says("NONE: there are none;");
        MinuteBook y = Check.told(CORRIDOR);
        edges.due("it is needed", y.without(1, -1), -1);
        edges.due("there are none anyhow", Check.told("book tone 3 heat 1;member;saying;").without(0, -1), -1);
        edges.says("-2; -3.");
        for (int m : new int[] {-1, 3, 6, LEAST, MOST}) {
            edges.due("without(" + m + ", -1)", x.without(m, -1), -2);
            edges.due("without(" + m + ", 10)", x.without(m, 10), -2);
        }
        tones("without", tone -> x.without(2, tone));
        edges.due("no members", new MinuteBook().without(0, 0), -2);
    }

    private void promise20() {
        edges.promise(20);
        edges.says("MEMBERS without each of whom there are no MINUTES to an END with a TONE, as bits (0: there are none anyhow).");
        MinuteBook x = Check.told(CORRIDOR);
        edges.due("to tone 0", x.needed(0), 2);
        edges.due("to any", x.needed(-1), 2);
        edges.due("to tone 9", x.needed(9), 3);
        edges.due("all six", Check.told(LONG).needed(-1), 63);
        edges.due("none anyhow", Check.told(LONG).needed(8), 0);
        edges.due("one now", Check.told("book tone 3 heat 0;member;").needed(3), 0);
        edges.due("either of two", Check.told("book tone 0 heat 1;member;member;saying cool 1;").needed(-1), 0);
        x.mark(1, 0);
        edges.due("none any more", x.needed(-1), 0);
        edges.says("-3.");
        tones("needed", Check.told(CORRIDOR)::needed);
    }

    private void promise21() {
        edges.promise(21);
        edges.says("FULL: how many MINUTES.");
        MinuteBook x = Check.told(CORRIDOR);
        edges.due("any", x.full(-1), 4);
        edges.due("tone 1", x.full(1), 4);
        edges.due("tone 9", x.full(9), 12);
        edges.due("600", Check.told(LONG).full(-1), 600);
        edges.due("no members, one now", new MinuteBook().full(-1), 0);
        x.say(0, 0);
        edges.due("who spoke ahead of now does not count", x.full(2), 4);
        edges.says("NONE: there are none; -3.");
        MinuteBook y = Check.told(CORRIDOR);
        edges.due("tone 0 without a minute of 0", y.full(0), -1);
        edges.due("no members, with another tone", new MinuteBook().full(1), -1);
        tones("full", y::full);
    }

    private void promise22() {
        edges.promise(22);
        edges.says("The i-th MINUTE of these. As minute().");
        MinuteBook x = Check.told(CORRIDOR);
        row("fullMinute(-1, i)", i -> x.fullMinute(-1, i), 0, 11, 11, 11);
        row("fullMinute(9, i)", i -> x.fullMinute(9, i), 0, 0, 0, 0, 11, 11, 11, 0, 0, 0, 0, 0);
        row("fullMinute(0, i)", i -> x.fullMinute(0, i));
        negativePlaces("fullMinute", x::fullMinute);
        tones("fullMinute", tone -> x.fullMinute(tone, 0));
        edges.due("there are none, i below 0", x.fullMinute(0, -1), -3);
        MinuteBook y = Check.told(LONG);
        for (int i = 0; i < 600; i += 7) {
            edges.due("of the long way, " + i, y.fullMinute(-1, i), longMinute(i));
        }
        edges.due("599", y.fullMinute(-1, 599), 50);
        edges.due("600", y.fullMinute(-1, 600), -1);
        edges.due("a new object", new MinuteBook().fullMinute(0, 0), -1);
    }

    private void promise23() {
        edges.promise(23);
        edges.says("TONES with which there is an END some time, as bits.");
        MinuteBook x = Check.told(CORRIDOR);
        edges.due("all", x.tones(), 1023);
        for (int i = 1; i <= 4; i++) {
            x.say(0, 0);
            edges.due(i + " ups", x.tones(), 1023 >> i << i);
        }
        x.say(0, 0);
        edges.due("none", x.tones(), 0);
        edges.due("now, too", Check.told("book tone 9 heat 0;").tones(), 512);
        edges.due("the last of 700 states", Check.told("book tone 0 heat 0;" + "member;".repeat(6)
            + "saying warm 1;saying up 1;closes : tone = 9 and heat = 9 and last = 5;").tones(), 512);
        for (int tone = 0; tone <= 9; tone++) {
            edges.due("some time behind an end with " + tone, Check.told("book tone " + tone
                + " heat 0;member;saying up 9;saying down 9;").tones(), 513 | 1 << tone);
        }
        edges.due("at the end of the long way", Check.told(LONG).tones(), 512);
        edges.due("a new object", new MinuteBook().tones(), 1);
        edges.due("by member 5 at tone 9 and heat 9", Check.told("book tone 9 heat 9;" + "member;".repeat(6)
            + "saying;closes : last = 5 and heat = 9;").tones(), 512);
    }

    private void promise24() {
        edges.promise(24);
        edges.says("CALMEST, what 0: its greatest HEAT, 1: how many MINUTES, 10 + i: the i-th (NONE: not so many).");
        MinuteBook x = Check.told(LONG);
        edges.due("heat", x.calmest(9, 0), 9);
        edges.due("minutes", x.calmest(9, 1), 600);
        for (int i = 0; i < 20; i++) {
            edges.due("what " + (10 + i), x.calmest(9, 10 + i), longMinute(i));
        }
        MinuteBook y = Check.told("book tone 0 heat 9;member;saying cool 1;saying up 1;");
        edges.due("of 18", y.calmest(9, 27), 1);
        edges.due("the 17th of them", y.calmest(9, 26), 1);
        edges.due("not so many", y.calmest(9, 28), -1);
        edges.due("not so many", y.calmest(9, 29), -1);
        MinuteBook z = Check.told("book tone 0 heat 0;");
        edges.due("now: heat", z.calmest(0, 0), 0);
        edges.due("now: minutes", z.calmest(0, 1), 0);
        edges.due("now: the first", z.calmest(0, 10), -1);
        edges.says("NONE: there are none; -2: what (10 to 29); -3.");
        for (int what : new int[] {0, 1, 10, 29}) {
            edges.due("there are none, what " + what, x.calmest(8, what), -1);
            edges.due("no such tone, what " + what, x.calmest(10, what), -3);
            tones("calmest, what " + what, tone -> y.calmest(tone, what));
        }
        for (int what : new int[] {-1, 2, 3, 9, 30, 31, LEAST, MOST}) {
            edges.due("calmest(9, " + what + ")", x.calmest(9, what), -2);
            edges.due("calmest(8, " + what + ")", x.calmest(8, what), -2);
            edges.due("calmest(10, " + what + ")", x.calmest(10, what), -2);
        }
    }

    private void promise25() {
        edges.promise(25);
        edges.says("The SAYING without which the SHORTEST to an END (any TONE) would be longest (that there is none is longer than any), if longer than now, the first.");
        String cools = "book tone 0 heat 6;member;saying cool 1;saying cool 3;";
        edges.due("by 1 it is 2, else 6", Check.told(cools).keyword(), 1);
        edges.due("two that are needed: the first", Check.told("book tone 0 heat 1;member;saying up 1;saying cool 1;closes : tone = 1 and heat = 0;").keyword(), 0);
        edges.due("none is longer than any", Check.told("book tone 0 heat 6;member;saying up 1;saying cool 1;saying cool 3;"
            + "would : tone = 0 and saying = 0 or tone > 0;closes : tone > 0 and heat = 0;").keyword(), 0);
        edges.due("longest, not longer alone", Check.told("book tone 0 heat 6;member;saying up 1;saying cool 1;saying up 1;saying cool 2;"
            + "would : saying = 1 or saying = 3 or tone < 2;closes : heat = 0 or tone = 9;").keyword(), 3);
        edges.due("saying 7", Check.told("book tone 0 heat 6;member;" + "saying;".repeat(7) + "saying cool 1;").keyword(), 7);
        edges.due("of like ones the first", Check.told("book tone 0 heat 4;member;saying cool 2;saying cool 1;saying up 1;"
            + "would : saying = 2 and tone = 0 or saying < 2 and tone = 1;closes : heat = 0 and last = 0;").keyword(), 2);
        edges.says("NONE: none, there are none anyhow.");
        edges.due("either does", Check.told("book tone 0 heat 6;member;saying cool 3;saying cool 3;").keyword(), -1);
        edges.due("one now", Check.told("book tone 0 heat 0;member;saying;").keyword(), -1);
        edges.due("none anyhow", Check.told("book tone 0 heat 1;member;saying;").keyword(), -1);
        edges.due("a new object", new MinuteBook().keyword(), -1);
        edges.due("without members", Check.told("book tone 0 heat 1;saying cool 1;").keyword(), -1);
        edges.due("the long way", Check.told(LONG).keyword(), 0);
    }
}
