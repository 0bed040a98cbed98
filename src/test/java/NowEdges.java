import java.util.List;
import java.util.function.Consumer;
import java.util.function.ToLongFunction;

/** What was asked, told or imaged earlier leaves no trace: all answers are of what stands now. */
final class NowEdges {
    /** By tone, heat, marks and who spoke last; each of two members and three sayings counts. */
    private static final String TEXT = Twins.TEXT;
    /** Its laws stand the other way about, it has more of everything. */
    private static final String LONGER = "book tone 9 heat 8;closes : tone < 9 and last < 9 and 1 + 1 = 2;saying down 2;saying cool 3;"
        + "saying warm 1;saying down 1 cool 1;member mark 9;member mark 8;member mark 7;member;"
        + "would : mark * 2 > saying + 1 and not last = who;stroke 7;";
    private static final String WITHOUT_LAWS = "book tone 2 heat 5;member;member mark 4;member mark 3;saying cool 1;saying up 1;";
    private static final String CLOSES_ALONE = "book tone 0 heat 6;closes : last = 1 and heat < 9;member;member;saying up 1;stroke 10;";
    private static final String WOULD_ALONE = "book tone 1 heat 3;would : who < 1 or saying > 0;member mark 1;member;saying up 3;saying cool 1;";
    /** With the marks of TEXT when it is asked, and in its mood once saying 2 is said, but else another book. */
    private static final String SAME_MOOD = "book tone 5 heat 2;member mark 2;member mark 6;saying cool 1 up 2;saying up 1 warm 1;saying;"
        + "would : saying > last or saying + mark > 3;closes : heat > 3 or tone = 9;stroke 5;";
    private static final String BARE = "book tone 8 heat 0;";
    private static final String[] RIGHT = {TEXT, LONGER, WITHOUT_LAWS, CLOSES_ALONE, WOULD_ALONE, BARE};
    private static final String[] WRONG = {LONGER + "stroke 11;", TEXT + "closes : 1 = 1;would : 1 = 2", CLOSES_ALONE + "?", "book tone 7"};

    private final Edges edges;

    NowEdges(Edges edges) {
        this.edges = edges;
    }

    void run() {
        edges.terms();
        edges.says("MINUTES: a row of MINUTES from now on");
        askedEarlier();
        askedElsewhere();
        edges.promise(3);
        edges.says("The first n bytes of THE TAPE (which is empty then) are THE BOOK");
        toldEarlier();
        bytesBehind();
        edges.promise(44);
        edges.says("All that is in an IMAGE is as it was: 0.");
        imaged();
    }

    private static void trays(MinuteBook x) {
        Check.lay(x, 0, 11, 2, 1);
        Check.lay(x, 1, 10, 107, -1, 1);
        Check.lay(x, 2, -1, 1, -1);
        Check.lay(x, 3, 1, 0, 11, 1);
    }

    /** All calls that only answer; each of them must look at what stands now by itself. */
    private interface Asks {
        void ask(String name, ToLongFunction<MinuteBook> call);
    }

    private static void asks(Asks to) {
        for (int n = 0; n < 6; n++) {
            int i = n;
            to.ask("count(" + i + ")", x -> x.count(i));
            to.ask("member(" + i % 2 + ", 1)", x -> x.member(i % 2, 1));
            to.ask("saying(" + i % 3 + ", 2)", x -> x.saying(i % 3, 2));
            to.ask("judge(1, " + i % 4 + ")", x -> x.judge(1, i % 4));
            to.ask("right(3, -1, " + i % 4 + ")", x -> x.right(3, -1, i % 4));
            to.ask("sureMinute(2, " + i % 3 + ")", x -> x.sureMinute(2, i % 3));
            to.ask("speakers(2, " + i % 3 + ")", x -> x.speakers(2, i % 3));
        }
        for (int n = -1; n < 10; n++) {
            int tone = n;
            to.ask("shortest(" + tone + ")", x -> x.shortest(tone));
            to.ask("minute(" + tone + ", 0)", x -> x.minute(tone, 0));
            to.ask("rows(" + tone + ", 4)", x -> x.rows(tone, 4));
            to.ask("without(1, " + tone + ")", x -> x.without(1, tone));
            to.ask("needed(" + tone + ")", x -> x.needed(tone));
            to.ask("full(" + tone + ")", x -> x.full(tone));
            to.ask("fullMinute(" + tone + ", 1)", x -> x.fullMinute(tone, 1));
            to.ask("calmest(" + tone + ", 0)", x -> x.calmest(tone, 0));
            to.ask("calmest(" + tone + ", 1)", x -> x.calmest(tone, 1));
            to.ask("calmest(" + tone + ", 10)", x -> x.calmest(tone, 10));
            to.ask("errata(3, " + tone + ")", x -> x.errata(3, tone));
            to.ask("back(3, " + tone + ")", x -> x.back(3, tone));
            to.ask("forces(" + tone + ")", x -> x.forces(tone));
            to.ask("best(" + tone + ")", x -> x.best(tone));
            to.ask("stroke(" + tone + ", 1)", x -> x.stroke(tone, 1));
        }
        to.ask("closed()", MinuteBook::closed);
        to.ask("open()", MinuteBook::open);
        to.ask("tones()", MinuteBook::tones);
        to.ask("keyword()", MinuteBook::keyword);
        to.ask("baulk(0)", x -> x.baulk(0));
        to.ask("lost(2)", x -> x.lost(2));
        to.ask("kept(3, 0)", x -> x.kept(3, 0));
        to.ask("attempt(3, 1)", x -> x.attempt(3, 1));
        to.ask("power()", MinuteBook::power);
        to.ask("likeliest()", MinuteBook::likeliest);
    }

    /** Asks a call, changes something, and asks it again: as if another one had been asked ahead. */
    private void askedEarlier() {
        behind("say", NowEdges::begin, x -> x.say(0, 0));
        behind("mark", NowEdges::begin, x -> x.mark(0, 8));
        behind("another mark", NowEdges::begin, x -> x.mark(1, 0));
        behind("adjourn", NowEdges::begin, MinuteBook::adjourn);
        behind("undo", NowEdges::begin, x -> x.undo(1));
        behind("two undone", NowEdges::begin, x -> x.undo(2));
        behind("perform", NowEdges::begin, x -> x.perform(1));
        behind("monday", NowEdges::begin, x -> x.monday(12, 40));
        behind("restore", NowEdges::begin, x -> x.restore(0));
        behind("restore of another book with the same marks, in the same mood", NowEdges::begin, x -> x.restore(1));
        MinuteBook same = new MinuteBook();
        begin(same);
        for (int i = 0; i < 2; i++) {
            edges.due("the mood", same.count(0) * 10 + same.count(1), 52);
            edges.due("who spoke last", same.count(2), 0);
            edges.due("the marks", same.member(0, 0) * 10 + same.member(1, 0), 26);
            same.restore(1);
        }
        behind("a wrong book", NowEdges::begin, x -> Check.read(x, LONGER + "?"));
        behind("other trays", NowEdges::begin, x -> {
            Check.lay(x, 0, 1, 1, 1, 2);
            Check.lay(x, 1, 105, 0, 0);
            Check.lay(x, 2, -1, -1, 10);
            Check.lay(x, 3, 1, 1, 1, 0);
        });
        behind("lists", NowEdges::begin, x -> {
            x.lists(0, 5);
            x.lists(1, 4);
            x.lists(3, -1);
        });
        String[][] others = {{"mark 2", "mark 7"}, {"heat < 2", "heat < 1"}, {"saying cool 1", "saying cool 2"}, {"saying < 9", "saying < 7"},
            {"saying = 2]", "saying = 1]"}, {"stroke 3", "stroke 4"}, {"tone 4", "tone 3"}, {"closes : heat < 2 and tone > 2;", ""}};
        for (String[] other : others) {
            behind("a book with " + other[1] + " for " + other[0], NowEdges::beginBook, x -> Check.read(x, TEXT.replace(other[0], other[1])));
        }
    }

    private static void begin(MinuteBook x) {
        Check.read(x, SAME_MOOD);
        x.say(0, 2);
        x.image(1);
        Check.read(x, TEXT);
        x.image(0);
        trays(x);
        x.say(1, 0);
        x.mark(1, 6);
        x.say(0, 1);
    }

    private static void beginBook(MinuteBook x) {
        Check.read(x, TEXT);
        trays(x);
    }

    private void behind(String change, Consumer<MinuteBook> begin, Consumer<MinuteBook> by) {
        asks((name, call) -> {
            MinuteBook asked = new MinuteBook();
            begin.accept(asked);
            asked.open();
            call.applyAsLong(asked);
            by.accept(asked);
            MinuteBook fresh = new MinuteBook();
            begin.accept(fresh);
            by.accept(fresh);
            fresh.open();
            edges.due(name + " asked ahead of " + change, call.applyAsLong(asked), call.applyAsLong(fresh));
        });
    }

    /** Asks a call, another one elsewhere, and the first again, where it was asked. */
    private void askedElsewhere() {
        List<ToLongFunction<MinuteBook>> calls = List.of(x -> x.minute(-1, 1), x -> x.fullMinute(-1, 1), x -> x.calmest(5, 10),
            MinuteBook::tones, MinuteBook::keyword, x -> x.needed(-1), x -> x.rows(-1, 3), x -> x.right(3, -1, 2), x -> x.back(3, -1),
            x -> x.lost(2), x -> x.sureMinute(2, 0), x -> x.sureMinute(2, 2), x -> x.speakers(2, 0), x -> x.speakers(2, 2), x -> x.kept(3, 1), x -> x.best(6), MinuteBook::power, MinuteBook::likeliest);
        for (int first = 0; first < calls.size(); first++) {
            for (int second = 0; second < calls.size(); second++) {
                MinuteBook x = new MinuteBook();
                begin(x);
                long here = calls.get(first).applyAsLong(x);
                x.say(1, 2);
                long there = calls.get(second).applyAsLong(x);
                x.undo(1);
                edges.due("call " + first + " as ahead of call " + second + " elsewhere", calls.get(first).applyAsLong(x), here);
                x.say(1, 2);
                edges.due("call " + second + " as it was there", calls.get(second).applyAsLong(x), there);
                x.undo(1);
                calls.get(second).applyAsLong(x);
                edges.due("call " + first + " as ahead of call " + second + " here", calls.get(first).applyAsLong(x), here);
            }
        }
    }

    private void toldEarlier() {
        for (String first : RIGHT) {
            for (String last : RIGHT) {
                laterThan(first, WITHOUT_LAWS, last);
                laterThan(first, WRONG[0], last);
            }
        }
        for (String first : WRONG) {
            for (String second : WRONG) {
                laterThan(first, second, WITHOUT_LAWS);
                laterThan(first, second, BARE);
            }
        }
    }

    private void laterThan(String first, String second, String last) {
        Twins.alike(edges, last + " later than " + first + " and " + second, x -> {
            Check.read(x, first);
            Check.read(x, second);
            Check.read(x, last);
            trays(x);
        }, x -> {
            Check.read(x, last);
            trays(x);
        });
    }

    /** Reads so many bytes of what is on the tape, whatever stands behind them. */
    private void bytesBehind() {
        String text = "book tone 1 heat 19;member mark 10;sayings up 10;stroke 101;closes : tone = 1000 and heats < 12;";
        for (int n = 0; n <= text.length(); n++) {
            firstBytes(text, n);
        }
        String right = "book tone 1 heat 1 ; member mark 3 ; saying up 2 ; would : who + 12 < 999 ; closes : not [ 1 = 1 or ( 2 ) = 3 ] ; stroke 1 ;";
        for (int n = 0; n <= right.length(); n++) {
            firstBytes(right, n);
        }
        for (String end : new String[] {"member", "stroke 1", "closes : 999", "closes : 1 <", "?", "member;stroke1;", "stroke 1000"}) {
            String start = "book tone 1 heat 1;";
            String full = start + " ".repeat(900 - start.length() - end.length()) + end;
            firstBytes(full, 900);
            firstBytes(full, 899);
        }
    }

    private void firstBytes(String text, int n) {
        MinuteBook x = new MinuteBook();
        Check.feed(x, text);
        MinuteBook y = new MinuteBook();
        Check.feed(y, text.substring(0, n));
        String name = n + " bytes of " + text.strip();
        edges.due(name, x.book(n), y.book(n));
        edges.due(name + ": fault", x.fault(0), y.fault(0));
        edges.due(name + ": place", x.fault(1), y.fault(1));
        edges.due(name + ": the place is in them", x.fault(1) <= n ? 1 : 0, 1);
        edges.due(name + ": lines", x.count(9), y.count(9));
        edges.due(name + ": the tape", x.count(8), 0);
    }

    private void imaged() {
        for (String text : RIGHT) {
            for (String later : RIGHT) {
                Twins.alike(edges, text + " imaged ahead of " + later, x -> {
                    begunImage(x, text);
                    Check.read(x, later);
                    x.mark(0, 3);
                    x.say(0, 0);
                    x.restore(0);
                }, x -> {
                    begunImage(x, text);
                    x.restore(0);
                });
                Twins.alike(edges, text + " imaged ahead of two of " + later, x -> {
                    begunImage(x, text);
                    Check.read(x, later);
                    x.say(1, 1);
                    Check.read(x, later);
                    x.mark(1, 3);
                    x.restore(0);
                    x.say(0, 1);
                }, x -> {
                    begunImage(x, text);
                    x.restore(0);
                    x.say(0, 1);
                });
            }
        }
    }

    private static void begunImage(MinuteBook x, String text) {
        Check.read(x, text);
        trays(x);
        x.say(0, 0);
        x.say(1, 1);
        x.mark(1, 5);
        x.image(0);
    }
}
