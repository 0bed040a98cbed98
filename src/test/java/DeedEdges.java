/** Edges of what members and sayings answer and of deeds, done, undone and judged; promises 5 to 15. */
final class DeedEdges {
    private static final int LEAST = Integer.MIN_VALUE;
    private static final int MOST = Integer.MAX_VALUE;
    private static final int[] OUT_OF_TRAYS = {-1, 4, LEAST, MOST};
    private static final String WIDE = "book tone 4 heat 5;member mark 1;member mark 2;member mark 3;member mark 4;member mark 5;"
        + "member mark 6;saying up 1;saying down 1;saying warm 1;saying cool 1;saying up 9;saying down 9;saying warm 9;saying cool 9;";
    /** Two members, three sayings; nobody says 2 twice running, nor anything with mark 9. */
    private static final String SMALL = "book tone 5 heat 2;member mark 3;member;saying up 1;saying cool 1;saying down 2 warm 1;"
        + "would : mark < 9 and not [saying = 2 and last = who];";

    private final Edges edges;

    DeedEdges(Edges edges) {
        this.edges = edges;
    }

    void run() {
        edges.terms();
        sayMarkAdjourn();
        whyNot();
        deedsInATray();
        tenCallsAtMost();
        whatIsBroughtBack();
        mondays();
        promise5();
        promise6();
        promise7();
        promise8();
        promise9();
        promise10();
        promise11();
        promise12();
        promise13();
        promise14();
        promise15();
    }

    private void counts(MinuteBook x, String when, int... due) {
        for (int what = 0; what < due.length; what++) {
            edges.due(when + ": count(" + what + ")", x.count(what), due[what]);
        }
    }

    private void sayMarkAdjourn() {
        edges.says("To SAY a MINUTE; to MARK a MEMBER anew; to ADJOURN: TONE and HEAT are as the text told at first, nobody spoke.");
        MinuteBook x = Check.told(SMALL);
        x.say(0, 0);
        counts(x, "said", 6, 2, 0, 2, 3, 1, 3, 1);
        x.mark(1, 8);
        counts(x, "marked", 6, 2, 0, 2, 3, 1, 11, 2);
        x.say(1, 2);
        counts(x, "said again", 4, 3, 1, 2, 3, 2, 11, 3);
        x.adjourn();
        counts(x, "adjourned", 5, 2, -1, 2, 3, 0, 11, 4);
        edges.due("nobody spoke: 1 may say 2", x.say(1, 2), 33);
    }

    private void whyNot() {
        edges.says("Why not: 1 no such MEMBER, SAYING, MARK. 2 it BAULKS.");
        MinuteBook x = Check.told(SMALL);
        edges.due("member 1, saying 2", x.say(1, 2), 33);
        edges.due("it baulks", x.say(1, 2), -12);
        edges.due("member 2", x.say(2, 2), -11);
        edges.due("saying 3", x.say(1, 3), -11);
        edges.due("mark 9", x.mark(1, 9), 0);
        edges.due("mark 10", x.mark(1, 10), -11);
        edges.due("mark of member 2", x.mark(2, 9), -11);
        edges.due("no saying 3, and it would baulk", x.say(1, 3), -11);
        Check.lay(x, 0, 12, 0);
        edges.due("judged: 2", x.judge(0, 1), 2);
        Check.lay(x, 0, 13, 0);
        edges.due("judged: 1", x.judge(0, 1), 1);
    }

    private static int whyOf(long v, int members, int sayings) {
        boolean isMinute = v >= 0 && v <= 99 && v / 10 < members && v % 10 < sayings;
        boolean isMark = v >= 100 && v <= 199 && (v - 100) / 10 < members;
        return v == -1 || isMinute || isMark ? 0 : 1;
    }

    private void deedsInATray() {
        edges.says("DEEDS in a TRAY: 0 to 99: MINUTE v is SAID; 100 to 199: MEMBER (v - 100) by 10 has MARK v modulo 10; NONE: to ADJOURN; others: 1.");
        int[][] sizes = {{6, 8}, {2, 3}, {1, 1}, {0, 0}};
        for (int[] size : sizes) {
            String text = "book tone 4 heat 5;" + "member;".repeat(size[0]) + "saying up 1;".repeat(size[1]);
            for (int from = -140; from < 340; from += 80) {
                MinuteBook x = Check.told(text);
                x.numbers(0, 2, 1);
                for (int v = from; v < from + 80; v++) {
                    x.write(0, 0, v);
                    int why = whyOf(v, size[0], size[1]);
                    edges.due(size[0] + " members, judged " + v, x.judge(0, 1), why);
                    edges.due(size[0] + " members, place of " + v, x.judge(0, 0), why == 0 ? -1 : 0);
                    edges.due(size[0] + " members, mood behind " + v, x.judge(0, 2), why == 0 && v >= 0 && v < 100 ? 55 : 45);
                }
            }
        }
        for (int m = 0; m < 6; m++) {
            for (int n = 0; n <= 9; n++) {
                MinuteBook x = Check.told(WIDE);
                Check.lay(x, 0, 100 + 10 * m + n);
                x.perform(0);
                edges.due("mark by " + (100 + 10 * m + n), x.member(m, 0), n);
                edges.due("no other mark", x.count(6), 21 - (m + 1) + n);
            }
        }
        MinuteBook x = Check.told(WIDE);
        x.say(5, 4);
        Check.lay(x, 0, -1);
        x.perform(0);
        counts(x, "NONE", 4, 5, -1, 6, 8, 0, 21, 2);
        x.numbers(1, 3, 1);
        for (long v : new long[] {1L << 32, (1L << 32) + 100, 0xffffffffL, -1L << 32, Long.MIN_VALUE, Long.MAX_VALUE, MOST, LEAST}) {
            x.write(1, 0, v);
            edges.due("judged " + v, x.judge(1, 1), 1);
        }
    }

    private void tenCallsAtMost() {
        edges.says("Calls that did some can be UNDONE each as a whole, the latest first, 10 at most (eldest are forgotten):");
        for (int calls = 0; calls <= 25; calls++) {
            MinuteBook x = Check.told(WIDE);
            for (int i = 1; i <= calls; i++) {
                x.mark(0, i % 10);
            }
            edges.due(calls + " calls", x.count(7), Math.min(calls, 10));
            for (int left = Math.min(calls, 10) - 1; left >= 0; left--) {
                edges.due("undo(1) of " + calls, x.undo(1), left);
                int stands = calls - Math.min(calls, 10) + left;
                edges.due("the mark then", x.member(0, 0), stands == 0 ? 1 : stands % 10);
            }
            edges.due("no more", x.undo(1), -3);
        }
        MinuteBook x = Check.told(SMALL);
        x.say(1, 2);
        x.mark(0, 3);
        x.adjourn();
        Check.lay(x, 0, 0, 105, -1, 11, 300);
        edges.due("perform", x.perform(0), 4);
        x.monday(1, 40);
        edges.due("five calls", x.count(7), 5);
        x.numbers(1, 0, 0);
        Check.lay(x, 2, 77);
        edges.due("no deeds", x.perform(1), 0);
        edges.due("none that can be", x.perform(2), 0);
        edges.due("baulks", Check.told(SMALL + "would : 1 = 2;").say(0, 0), -12);
        x.say(7, 7);
        x.mark(7, 7);
        x.undo(11);
        x.judge(0, 0);
        edges.due("five calls still", x.count(7), 5);
        edges.due("the monday", x.undo(1), 4);
        counts(x, "ahead of the monday", 5, 1, 1, 2, 3, 1, 5, 4);
        edges.due("the tray's deeds", x.undo(1), 3);
        counts(x, "ahead of them", 5, 2, -1, 2, 3, 0, 3, 3);
        edges.due("the adjourning", x.undo(1), 2);
        counts(x, "ahead of it", 3, 3, 1, 2, 3, 1, 3, 2);
        edges.due("a mark that was the same", x.undo(1), 1);
        edges.due("the minute", x.undo(1), 0);
        counts(x, "at first", 5, 2, -1, 2, 3, 0, 3, 0);
        MinuteBook y = Check.told("book tone 1 heat 1;");
        edges.due("a monday without members", y.monday(3, 1) > 0 ? y.count(7) : 1 - y.count(7), 1);
    }

    private void whatIsBroughtBack() {
        edges.says("TONE, HEAT, who spoke last, MARKS, how many MINUTES were SAID.");
        MinuteBook x = Check.told(WIDE);
        x.say(3, 0);
        x.say(2, 2);
        x.mark(5, 9);
        counts(x, "ahead", 5, 6, 2, 6, 8, 2, 24, 3);
        Check.lay(x, 0, -1, 57, 109, 119, 129, 139, 149, 159, 44);
        edges.due("perform", x.perform(0), 9);
        counts(x, "behind", 9, 0, 4, 6, 8, 2, 54, 4);
        Check.feed(x, "x");
        edges.due("undo(1)", x.undo(1), 3);
        counts(x, "undone", 5, 6, 2, 6, 8, 2, 24, 3, 20);
        for (int m = 0; m < 6; m++) {
            edges.due("mark of " + m, x.member(m, 0), m < 5 ? m + 1 : 9);
        }
        edges.due("the tray stays", x.judge(0, 2), 90);
    }

    private static long draw(long[] x) {
        long low = (1103515245L * x[0] + 12345L) & 0xffffffffL;
        x[0] = low;
        return low >> 16;
    }

    /** What a MONDAY draws, as deeds, with x counted as a number of 32 bits without a sign. */
    private static long[] drawn(int seed, int times) {
        long[] x = {seed & 0xffffffffL};
        long[] deeds = new long[times];
        for (int i = 0; i < times; i++) {
            long kind = draw(x) % 6;
            deeds[i] = -1;
            if (kind < 5) {
                long m = draw(x) % 6;
                deeds[i] = kind < 4 ? 10 * m + draw(x) % 8 : 100 + 10 * m + draw(x) % 10;
            }
        }
        return deeds;
    }

    private void mondays() {
        edges.says("A MONDAY by a SEED (x, an int; a DRAW: x becomes 1103515245 x + 12345, it is x >>> 16): so many times (1 to 40):");
        int[] seeds = {0, 1, -1, 2, 42, 65536, -65536, 123456789, -987654321, LEAST, MOST};
        for (int seed : seeds) {
            for (int times : new int[] {1, 2, 39, 40}) {
                MinuteBook x = Check.told(WIDE);
                MinuteBook y = Check.told(WIDE);
                Check.lay(y, 0, drawn(seed, times));
                edges.due("all can be: monday(" + seed + ", " + times + ")", x.monday(seed, times), times);
                edges.due("as in a tray", y.perform(0), times);
                alike(x, y, "monday(" + seed + ", " + times + ")");
            }
        }
        edges.says("DRAW modulo 6: 0 to 3 MEMBER DRAW modulo 6 SAYS SAYING DRAW modulo 8; 4 MEMBER DRAW modulo 6 has MARK DRAW modulo 10; 5 to ADJOURN; as in a TRAY, if it can be.");
        boolean[] kinds = new boolean[200];
        for (int seed = 0; seed < 300; seed++) {
            MinuteBook x = Check.told(SMALL);
            MinuteBook y = Check.told(SMALL);
            int done = 0;
            y.numbers(0, 2, 1);
            for (long deed : drawn(seed * 7919, 40)) {
                y.write(0, 0, deed);
                done += y.perform(0);
                kinds[(int) Math.max(deed, 99)] = true;
                kinds[(int) Math.max(deed, 0)] = true;
            }
            edges.due("some can't be: monday(" + seed * 7919 + ", 40)", x.monday(seed * 7919, 40), done);
            alike(x, y, "monday(" + seed * 7919 + ", 40)");
            edges.due("one call", x.count(7), 1);
        }
        for (int v = 0; v < 160; v++) {
            boolean isDrawn = v >= 100 || v < 60 && v % 10 < 8 || v == 99;
            edges.due("drawn by some seed: " + v, kinds[v] ? 1 : 0, isDrawn ? 1 : 0);
        }
    }

    private void alike(MinuteBook x, MinuteBook y, String when) {
        for (int what = 0; what < 7; what++) {
            edges.due(when + ": count(" + what + ")", x.count(what), y.count(what));
        }
        for (int m = 0; m < 6; m++) {
            edges.due(when + ": mark of " + m, x.member(m, 0), y.member(m, 0));
        }
    }

    private void promise5() {
        edges.promise(5);
        edges.says("Of a MEMBER, what 0: its MARK, 1: SAYINGS it WOULD say now, as bits, 2: 1 if it spoke last, else 0.");
        MinuteBook x = Check.told(WIDE);
        for (int m = 0; m < 6; m++) {
            edges.due("mark", x.member(m, 0), m + 1);
            edges.due("all sayings", x.member(m, 1), 255);
            edges.due("not yet", x.member(m, 2), 0);
        }
        x.say(5, 0);
        for (int m = 0; m < 6; m++) {
            edges.due("5 spoke last", x.member(m, 2), m == 5 ? 1 : 0);
        }
        x.mark(5, 0);
        edges.due("marked", x.member(5, 0), 0);
        edges.due("nobody spoke last without a minute", Check.told(SMALL).member(0, 2), 0);
        MinuteBook y = Check.told(SMALL);
        y.say(1, 2);
        edges.due("now", y.member(1, 1), 3);
        edges.due("no sayings", Check.told("book tone 1 heat 1;member;").member(0, 1), 0);
        edges.says("-2.");
        edges.due("member 5 of 6", x.member(5, 2), 1);
        for (int m : new int[] {-1, 6, 7, 9, LEAST, MOST}) {
            for (int what = -1; what <= 3; what++) {
                edges.due("member(" + m + ", " + what + ")", x.member(m, what), -2);
            }
        }
        for (int what : new int[] {-1, 3, LEAST, MOST}) {
            edges.due("member(0, " + what + ")", x.member(0, what), -2);
        }
        edges.due("member 1 of 2", y.member(1, 0), 0);
        edges.due("member 2 of 2", y.member(2, 0), -2);
    }

    private void promise6() {
        edges.promise(6);
        edges.says("Of a SAYING, what 0: how much TONE goes (down: below 0), 1: HEAT likewise, 2: MEMBERS who WOULD say it now, as bits.");
        MinuteBook x = Check.told(WIDE);
        int[] tone = {1, -1, 0, 0, 9, -9, 0, 0};
        int[] heat = {0, 0, 1, -1, 0, 0, 9, -9};
        for (int s = 0; s < 8; s++) {
            edges.due("tone", x.saying(s, 0), tone[s]);
            edges.due("heat", x.saying(s, 1), heat[s]);
            edges.due("all members", x.saying(s, 2), 63);
        }
        MinuteBook y = Check.told(SMALL);
        y.say(1, 2);
        edges.due("now", y.saying(2, 2), 1);
        y.mark(0, 9);
        edges.due("nobody", y.saying(2, 2), 0);
        edges.says("-99000002.");
        for (int s : new int[] {-1, 8, 9, LEAST, MOST}) {
            for (int what = -1; what <= 3; what++) {
                edges.due("saying(" + s + ", " + what + ")", x.saying(s, what), -99000002);
            }
        }
        for (int what : new int[] {-1, 3, LEAST, MOST}) {
            edges.due("saying(7, " + what + ")", x.saying(7, what), -99000002);
        }
        edges.due("saying 2 of 3", y.saying(2, 0), -2);
        edges.due("saying 3 of 3", y.saying(3, 0), -99000002);
    }

    private void promise7() {
        edges.promise(7);
        edges.says("Whether the sitting CLOSES now: 1 if so, else 0.");
        MinuteBook x = Check.told("book tone 5 heat 1;member;saying cool 1;saying warm 1;");
        edges.due("heat 1", x.closed(), 0);
        x.say(0, 0);
        edges.due("heat 0", x.closed(), 1);
        x.say(0, 1);
        edges.due("heat 1 again", x.closed(), 0);
        x.undo(1);
        edges.due("undone", x.closed(), 1);
        x.adjourn();
        edges.due("adjourned", x.closed(), 0);
    }

    private void promise8() {
        edges.promise(8);
        edges.says("How many MINUTES nobody BAULKS at now.");
        edges.due("48", Check.told(WIDE).open(), 48);
        MinuteBook x = Check.told(SMALL);
        edges.due("6", x.open(), 6);
        x.say(0, 2);
        edges.due("5", x.open(), 5);
        x.mark(1, 9);
        edges.due("2", x.open(), 2);
        x.mark(0, 9);
        edges.due("0", x.open(), 0);
        edges.due("a new object", new MinuteBook().open(), 0);
    }

    private void promise9() {
        edges.promise(9);
        edges.says("To SAY: 10 times TONE, and HEAT then.");
        MinuteBook x = Check.told(WIDE);
        edges.due("tone 9", x.say(0, 4), 95);
        edges.due("heat 9", x.say(5, 6), 99);
        edges.due("tone 0", x.say(0, 5), 9);
        edges.due("heat 0", x.say(0, 7), 0);
        counts(x, "then", 0, 0, 0, 6, 8, 4, 21, 4);
        edges.says("-11, -12.");
        MinuteBook y = Check.told(SMALL);
        edges.due("say(1, 2)", y.say(1, 2), 33);
        int[][] none = {{-1, 0}, {2, 0}, {0, -1}, {0, 3}, {2, 3}, {-1, -1}, {LEAST, 0}, {MOST, 0}, {0, LEAST}, {0, MOST}, {1, 3}};
        for (int[] pair : none) {
            edges.due("say(" + pair[0] + ", " + pair[1] + ")", y.say(pair[0], pair[1]), -11);
        }
        edges.due("it baulks", y.say(1, 2), -12);
        counts(y, "all stays", 3, 3, 1, 2, 3, 1, 3, 1);
    }

    private void promise10() {
        edges.promise(10);
        edges.says("To MARK: what it was.");
        MinuteBook x = Check.told(WIDE);
        edges.due("mark(5, 9)", x.mark(5, 9), 6);
        edges.due("mark(5, 0)", x.mark(5, 0), 9);
        edges.due("mark(5, 0)", x.mark(5, 0), 0);
        edges.due("mark(0, 5)", x.mark(0, 5), 1);
        edges.due("marks", x.count(6), 19);
        edges.says("-11.");
        for (int[] pair : new int[][] {{-1, 0}, {6, 0}, {0, -1}, {0, 10}, {6, 10}, {LEAST, 0}, {MOST, 0}, {0, LEAST}, {0, MOST}}) {
            edges.due("mark(" + pair[0] + ", " + pair[1] + ")", x.mark(pair[0], pair[1]), -11);
        }
        counts(x, "all stays", 4, 5, -1, 6, 8, 0, 19, 4);
    }

    private void promise11() {
        edges.promise(11);
        edges.says("To ADJOURN: how many MINUTES were SAID since the last time.");
        MinuteBook x = Check.told(WIDE);
        edges.due("none", x.adjourn(), 0);
        x.say(0, 0);
        edges.due("one", x.adjourn(), 1);
        edges.due("none since", x.adjourn(), 0);
        x.say(0, 0);
        x.say(9, 9);
        x.mark(0, 2);
        x.say(1, 1);
        x.undo(1);
        Check.lay(x, 0, 11, 12, 109, 13, 99);
        edges.due("three in a tray", x.perform(0), 4);
        edges.due("four", x.adjourn(), 4);
        Check.lay(x, 0, 11, 12, -1, 13);
        x.perform(0);
        edges.due("one behind an adjourning in a tray", x.adjourn(), 1);
        for (int i = 0; i < 300; i++) {
            x.say(0, 0);
        }
        edges.due("three hundred", x.adjourn(), 300);
    }

    private void promise12() {
        edges.promise(12);
        edges.says("n calls (1 to 10) are UNDONE: how many still can be.");
        for (int n = 1; n <= 10; n++) {
            MinuteBook x = Check.told(WIDE);
            for (int i = 0; i < 12; i++) {
                x.mark(2, i % 10);
            }
            edges.due("undo(" + n + ")", x.undo(n), 10 - n);
            edges.due("the mark then", x.member(2, 0), (11 - n) % 10);
            edges.due("count(7)", x.count(7), 10 - n);
            edges.due("more than that", x.undo(11 - n), -3);
            edges.due("a new one", x.mark(2, 9), (11 - n) % 10);
            edges.due("counts", x.count(7), 11 - n);
        }
        edges.says("-3: n, more than can be.");
        MinuteBook x = Check.told(WIDE);
        edges.due("nothing yet", x.undo(1), -3);
        for (int i = 0; i < 10; i++) {
            x.mark(2, i);
        }
        for (int n : new int[] {0, -1, 11, 12, LEAST, MOST}) {
            edges.due("undo(" + n + ")", x.undo(n), -3);
        }
        edges.due("all stays", x.member(2, 0), 9);
        edges.due("undo(10)", x.undo(10), 0);
        edges.due("at first", x.member(2, 0), 3);
        edges.due("undo(1)", x.undo(1), -3);
    }

    private void judged(MinuteBook x, String when, int place, int why, int mood, int closes) {
        edges.due(when + ": judge(0, 0)", x.judge(0, 0), place);
        edges.due(when + ": judge(0, 1)", x.judge(0, 1), why);
        edges.due(when + ": judge(0, 2)", x.judge(0, 2), mood);
        edges.due(when + ": judge(0, 3)", x.judge(0, 3), closes);
    }

    private void promise13() {
        edges.promise(13);
        edges.says("DEEDS, judged as if done, what 0: the first place that can't be (NONE), 1: why (0), 2: 10 times TONE, and HEAT then, 3: 1 if the sitting CLOSES then, else 0.");
        MinuteBook x = Check.told(SMALL);
        x.numbers(0, 0, 0);
        judged(x, "no deeds", -1, 0, 52, 0);
        Check.lay(x, 0, 1, 1);
        judged(x, "all can be", -1, 0, 50, 1);
        Check.lay(x, 0, 99, 1, 1);
        judged(x, "the first can't be", 0, 1, 52, 0);
        Check.lay(x, 0, 1, 1, 12, 12);
        judged(x, "the last can't be", 3, 2, 31, 0);
        Check.lay(x, 0, 109, 1, 77);
        judged(x, "by the mark judged", 1, 2, 52, 0);
        Check.lay(x, 0, 2, -1, 2, 1, 1, 1);
        judged(x, "adjourned between", -1, 0, 30, 1);
        long[] forty = new long[40];
        judgedForty(x, forty);
        counts(x, "nothing is done", 5, 2, -1, 2, 3, 0, 3, 0);
        edges.says("-2: the TRAY, what; -6.");
        MinuteBook y = Check.told(SMALL);
        for (int tray : OUT_OF_TRAYS) {
            edges.due("judge(" + tray + ", 0)", y.judge(tray, 0), -2);
        }
        for (int tray = 0; tray < 4; tray++) {
            edges.due("missing", y.judge(tray, 3), -6);
            for (int what : new int[] {-1, 4, LEAST, MOST}) {
                edges.due("missing, judge(" + tray + ", " + what + ")", y.judge(tray, what), -2);
            }
            y.numbers(tray, 0, 0);
            edges.due("there, judge(" + tray + ", 0)", y.judge(tray, 0), -1);
            edges.due("there, judge(" + tray + ", 3)", y.judge(tray, 3), 0);
            edges.due("there, judge(" + tray + ", 4)", y.judge(tray, 4), -2);
            edges.due("there, judge(" + tray + ", -1)", y.judge(tray, -1), -2);
        }
    }

    private void judgedForty(MinuteBook x, long[] forty) {
        java.util.Arrays.fill(forty, 11);
        Check.lay(x, 0, forty);
        judged(x, "forty", -1, 0, 50, 1);
        forty[39] = 5;
        Check.lay(x, 0, forty);
        judged(x, "the fortieth can't be", 39, 1, 50, 1);
    }

    private void promise14() {
        edges.promise(14);
        edges.says("They are done, till one can't be: how many.");
        MinuteBook x = Check.told(SMALL);
        x.numbers(0, 0, 0);
        edges.due("no deeds", x.perform(0), 0);
        Check.lay(x, 0, 99, 0);
        edges.due("the first can't be", x.perform(0), 0);
        counts(x, "nothing is done", 5, 2, -1, 2, 3, 0, 3, 0);
        Check.lay(x, 0, 0, 119, 10, 0);
        edges.due("the third can't be", x.perform(0), 2);
        counts(x, "two are done", 6, 2, 0, 2, 3, 1, 12, 1);
        long[] forty = new long[40];
        Check.lay(x, 0, forty);
        edges.due("forty", x.perform(0), 40);
        counts(x, "forty are done", 9, 2, 0, 2, 3, 41, 12, 2);
        forty[39] = -2;
        Check.lay(x, 0, forty);
        edges.due("all but the fortieth", x.perform(0), 39);
        edges.says("-2; -6.");
        MinuteBook y = Check.told(SMALL);
        for (int tray : OUT_OF_TRAYS) {
            edges.due("perform(" + tray + ")", y.perform(tray), -2);
        }
        for (int tray = 0; tray < 4; tray++) {
            edges.due("missing", y.perform(tray), -6);
            y.numbers(tray, 0, 1);
            edges.due("there", y.perform(tray), 1);
        }
    }

    private void promise15() {
        edges.promise(15);
        edges.says("A MONDAY: how many could be.");
        MinuteBook x = Check.told(WIDE);
        edges.due("all", x.monday(5, 40), 40);
        edges.due("one call", x.undo(1), 0);
        counts(x, "undone", 4, 5, -1, 6, 8, 0, 21, 0);
        MinuteBook y = new MinuteBook();
        int adjourned = 0;
        for (long deed : drawn(77, 40)) {
            adjourned += deed == -1 ? 1 : 0;
        }
        edges.due("without members only to adjourn", y.monday(77, 40), adjourned);
        edges.due("one call then", y.count(7), adjourned > 0 ? 1 : 0);
        edges.due("the seed is no state", y.monday(77, 40), adjourned);
        int none = 0;
        for (int seed = 0; seed < 50; seed++) {
            MinuteBook z = new MinuteBook();
            int due = drawn(seed, 1)[0] == -1 ? 1 : 0;
            edges.due("monday(" + seed + ", 1)", z.monday(seed, 1), due);
            edges.due("calls that did some", z.count(7), due);
            none += 1 - due;
        }
        edges.due("some did nothing, some did", none > 0 && none < 50 ? 1 : 0, 1);
        edges.says("-3: how many times.");
        for (int times : new int[] {0, -1, 41, 42, LEAST, MOST}) {
            edges.due("monday(5, " + times + ")", x.monday(5, times), -3);
        }
        counts(x, "all stays", 4, 5, -1, 6, 8, 0, 21, 0);
        edges.due("monday(5, 1)", x.monday(5, 1), 1);
        edges.due("monday(least, 40)", x.monday(LEAST, 40), 40);
    }
}
