import java.math.BigInteger;

/** Edges of the game and of strokes; promises 35 to 39. */
final class GameEdges {
    private static final int LEAST = Integer.MIN_VALUE;
    private static final int MOST = Integer.MAX_VALUE;
    private static final int[] OUT_OF_TONES = {-2, 10, LEAST, MOST};
    private static final String STAIRS = "book tone 4 heat 0;member;saying up 1;";
    private static final String TWO_WAYS = "book tone 4 heat 0;member;saying up 1;saying down 1;";

    private final Edges edges;

    GameEdges(Edges edges) {
        this.edges = edges;
    }

    void run() {
        edges.terms();
        theGame();
        forcing();
        strokesInLowestTerms();
        promise35();
        promise36();
        promise37();
        promise38();
        promise39();
    }

    private void theGame() {
        edges.says("THE GAME for a TONE: two secretaries by turns write a MINUTE each at which nobody BAULKS, the first one now; if there is none, it ends.");
        edges.due("the first one now", Check.told(STAIRS).forces(5), 1);
        edges.due("then the other one", Check.told(STAIRS).forces(6), 2);
        edges.due("the first one has none", Check.told(STAIRS + "would : 1 = 2;").forces(5), -1);
        edges.due("the other one has none", Check.told(STAIRS + "would : tone = 4;").forces(6), -1);
        edges.due("the other one has none, though there is an end some time", Check.told("book tone 4 heat 0;member;saying up 1;saying up 3;"
            + "would : tone = 4 or tone = 7;").forces(8), -1);
        edges.due("but an end is there by then", Check.told(STAIRS + "would : tone = 4;").forces(5), 1);
        edges.due("the other one would baulk at what hinders", Check.told(TWO_WAYS + "would : saying = 0 or tone < 5;").forces(6), 2);
        edges.due("the first one would baulk", Check.told(TWO_WAYS + "would : saying = 1 or tone > 4;").forces(5), -1);
    }

    private void forcing() {
        edges.says("The first FORCES an END with that TONE within n MINUTES, if it can write so that there is one by then (now, too), whatever the other one writes.");
        edges.due("now, too", Check.told(TWO_WAYS).forces(4), 0);
        edges.due("now, without a minute", Check.told("book tone 4 heat 0;").forces(4), 0);
        edges.due("whatever the other one writes", Check.told(TWO_WAYS).forces(6), -1);
        MinuteBook x = Check.told("book tone 4 heat 0;member;saying up 1;saying up 2;");
        edges.due("5, then 7, or 6 and 7", x.forces(7), 3);
        edges.due("5, then 6 or 7, then 8", x.forces(8), 3);
        edges.due("6, then 7 or 8, then 9", x.forces(9), 3);
        edges.due("the other one goes by it", Check.told("book tone 4 heat 0;member;saying up 1;saying up 3;").forces(6), -1);
        edges.due("600 by turns", Check.told(MinuteEdges.LONG).forces(9), 600);
    }

    private static long[] chance(int stroke, int minutes) {
        BigInteger above = BigInteger.valueOf(10 - stroke).pow(Math.max(0, minutes - 1));
        BigInteger below = BigInteger.TEN.pow(Math.max(0, minutes - 1));
        BigInteger shared = above.gcd(below);
        return new long[] {above.divide(shared).longValueExact(), below.divide(shared).longValueExact()};
    }

    private void strokesInLowestTerms() {
        edges.says("STROKE: after each MINUTE the secretary is struck as likely as told, each by itself: how likely all but the last MINUTE of the SHORTEST pass without one, in lowest terms.");
        for (int stroke = 0; stroke <= 10; stroke++) {
            for (int minutes = 0; minutes <= 16; minutes++) {
                int up = Math.min(minutes, 9);
                MinuteBook x = Check.told("book tone 0 heat " + (minutes - up) + ";member;saying up 1;saying cool 1;stroke " + stroke + ";");
                edges.due("minutes", x.shortest(up), minutes);
                edges.due("above, stroke " + stroke + ", " + minutes + " minutes", x.stroke(up, 0), chance(stroke, minutes)[0]);
                edges.due("below, stroke " + stroke + ", " + minutes + " minutes", x.stroke(up, 1), chance(stroke, minutes)[1]);
            }
        }
    }

    private void promise35() {
        edges.promise(35);
        edges.says("Within how many MINUTES the first FORCES an END with a TONE, at fewest.");
        MinuteBook x = Check.told(STAIRS);
        for (int tone = 4; tone <= 9; tone++) {
            edges.due("tone " + tone, x.forces(tone), tone - 4);
        }
        edges.due("any tone", x.forces(-1), 0);
        MinuteBook y = Check.told("book tone 0 heat 9;member;saying cool 1;saying cool 2;");
        edges.due("at fewest", y.forces(-1), 6);
        y.say(0, 1);
        edges.due("7 left", y.forces(-1), 5);
        y.say(0, 0);
        edges.due("6 left", y.forces(-1), 4);
        edges.says("NONE: never; -3.");
        edges.due("never", x.forces(3), -1);
        edges.due("a new object", new MinuteBook().forces(5), -1);
        edges.due("an end that is never", Check.told("book tone 0 heat 1;member;saying;").forces(-1), -1);
        for (int tone : OUT_OF_TONES) {
            edges.due("forces(" + tone + ")", x.forces(tone), -3);
        }
        edges.due("forces(9)", x.forces(9), 5);
    }

    private void promise36() {
        edges.promise(36);
        edges.says("The first MINUTE by which it does within as few.");
        MinuteBook x = Check.told("book tone 4 heat 0;member;member;saying up 1;saying up 2;saying down 1;");
        edges.due("tone 6", x.best(6), 1);
        edges.due("tone 5", x.best(5), 0);
        edges.due("tone 3", x.best(3), 2);
        MinuteBook y = Check.told("book tone 0 heat 0;member;saying up 2;saying up 1;closes : tone = 3;");
        edges.due("behind 2 the other one goes by it", y.best(-1), 1);
        MinuteBook z = Check.told("book tone 0 heat 9;member;saying cool 1;saying cool 2;");
        edges.due("the first of those within 6", z.best(-1), 1);
        edges.due("600", Check.told(MinuteEdges.LONG).best(-1), 0);
        edges.due("the last member's last saying", Check.told("book tone 4 heat 1;" + "member;".repeat(6) + "saying;".repeat(7)
            + "saying cool 1;would : saying < 7 or who = 5;").best(-1), 57);
        edges.says("NONE: it doesn't, it is one now; -3.");
        edges.due("it doesn't", x.best(0), -1);
        edges.due("it is one now", x.best(4), -1);
        edges.due("it is one now, any tone", x.best(-1), -1);
        edges.due("no minutes", new MinuteBook().best(1), -1);
        for (int tone : OUT_OF_TONES) {
            edges.due("best(" + tone + ")", x.best(tone), -3);
        }
    }

    private void promise37() {
        edges.promise(37);
        edges.says("TONES with which the first FORCES an END, as bits.");
        edges.due("upwards to 9", Check.told(STAIRS).power(), 0b1111110000);
        edges.due("one step", Check.told(TWO_WAYS).power(), 0b0000111000);
        edges.due("tone 0 alone", new MinuteBook().power(), 1);
        edges.due("tone 9 alone", Check.told("book tone 9 heat 0;").power(), 512);
        edges.due("none", Check.told("book tone 9 heat 1;").power(), 0);
        edges.due("the long way", Check.told(MinuteEdges.LONG).power(), 512);
        edges.due("the last of 700 states", Check.told("book tone 0 heat 0;" + "member;".repeat(6)
            + "saying warm 1;saying up 1;would : saying = 0 or heat = 9;closes : tone = 9 and heat = 9;").power(), 512);
        edges.due("all", Check.told("book tone 0 heat 0;member;saying up 1;").power(), 1023);
    }

    private void promise38() {
        edges.promise(38);
        edges.says("STROKE, what 0: the number above, 1: below (0 or 1 MINUTE: 1 by 1).");
        for (int minutes = 0; minutes <= 2; minutes++) {
            MinuteBook x = Check.told("book tone 0 heat " + minutes + ";member;saying cool 1;stroke 10;");
            edges.due("above, " + minutes, x.stroke(-1, 0), minutes < 2 ? 1 : 0);
            edges.due("below, " + minutes, x.stroke(-1, 1), 1);
            MinuteBook y = Check.told("book tone 0 heat " + minutes + ";member;saying cool 1;stroke 8;");
            edges.due("above, " + minutes, y.stroke(0, 0), 1);
            edges.due("below, " + minutes, y.stroke(0, 1), minutes < 2 ? 1 : 5);
        }
        MinuteBook far = Check.told("book tone 0 heat 9;member;saying up 1;saying cool 1;stroke 1;");
        edges.says("NONE: there are no MINUTES to it;");
        edges.due("above", Check.told(STAIRS).stroke(3, 0), -1);
        edges.due("below", Check.told(STAIRS).stroke(3, 1), -1);
        edges.says("-2: what; -3: the TONE; -4: there are more than 16.");
        for (int what : new int[] {-1, 2, LEAST, MOST}) {
            edges.due("stroke(7, " + what + ")", far.stroke(7, what), -2);
            edges.due("stroke(10, " + what + ")", far.stroke(10, what), -2);
            edges.due("stroke(8, " + what + ")", far.stroke(8, what), -2);
            edges.due("none, stroke(3, " + what + ")", Check.told(STAIRS).stroke(3, what), -2);
        }
        for (int tone : OUT_OF_TONES) {
            edges.due("stroke(" + tone + ", 0)", far.stroke(tone, 0), -3);
            edges.due("stroke(" + tone + ", 1)", far.stroke(tone, 1), -3);
        }
        edges.due("16 minutes", far.shortest(7), 16);
        edges.due("16, above", far.stroke(7, 0), 205891132094649L);
        edges.due("16, below", far.stroke(7, 1), 1000000000000000L);
        edges.due("17 minutes", far.shortest(8), 17);
        edges.due("17, above", far.stroke(8, 0), -4);
        edges.due("17, below", far.stroke(8, 1), -4);
        edges.due("600", Check.told(MinuteEdges.LONG).stroke(9, 0), -4);
    }

    private void promise39() {
        edges.promise(39);
        edges.says("The TONE with which there is an END some time and whose STROKE (as long as its MINUTES are) is greatest, the first.");
        String to = "book tone 5 heat 2;member;saying down 1 cool 1;saying up 1;saying cool 2;closes : heat = 0 and [";
        edges.due("fewer minutes are likelier", Check.told(to + "tone < 6];stroke 5;").likeliest(), 5);
        edges.due("two ahead of three", Check.told(to + "tone < 5 or tone > 7];stroke 5;").likeliest(), 3);
        edges.due("one minute to 5", Check.told(to + "1 = 1];stroke 1;").likeliest(), 5);
        edges.due("no stroke: all alike", Check.told(to + "tone > 2];").likeliest(), 3);
        edges.due("certain: one minute ahead of more", Check.told(to + "1 = 1];stroke 10;").likeliest(), 5);
        edges.due("certain: all alike", Check.told(to + "tone < 5 or tone > 7];stroke 10;").likeliest(), 0);
        edges.due("none and one minute are alike", Check.told("book tone 4 heat 0;member;saying down 1;stroke 9;").likeliest(), 3);
        edges.due("17 ahead of 18", Check.told("book tone 0 heat 9;member;saying up 1;saying cool 1;closes : heat = 0 and tone > 7;stroke 9;").likeliest(), 8);
        edges.due("18", Check.told("book tone 0 heat 9;member;saying up 1;saying cool 1;closes : heat = 0 and tone = 9;stroke 9;").likeliest(), 9);
        edges.due("600", Check.told(MinuteEdges.LONG + "stroke 9;").likeliest(), 9);
        String deep = MinuteEdges.LONG.substring(0, MinuteEdges.LONG.indexOf("closes"));
        edges.due("588 ahead of 594", Check.told(deep + "closes : heat = 9 and last = 5 and [tone = 8 or tone = 7];stroke 1;").likeliest(), 7);
        edges.due("some time: now", new MinuteBook().likeliest(), 0);
        edges.says("NONE: there is none.");
        edges.due("no end", Check.told("book tone 4 heat 1;member;saying up 1;stroke 3;").likeliest(), -1);
        edges.due("no minutes", Check.told("book tone 4 heat 1;").likeliest(), -1);
    }
}
