import java.util.function.Consumer;
import java.util.function.ToLongFunction;

/** Refused calls change nothing, and of several codes the first that a call tells is answered. */
final class RefusedEdges {
    private static final int LEAST = Integer.MIN_VALUE;
    private static final int MOST = Integer.MAX_VALUE;

    private final Edges edges;

    RefusedEdges(Edges edges) {
        this.edges = edges;
    }

    void run() {
        edges.terms();
        edges.says("Refused calls answer by a code and change nothing:");
        ofTheBook();
        ofDeeds();
        ofMinutes();
        ofMinutesInTrays();
        ofTraysAndImages();
        answersChangeNothing();
        codes();
        order();
    }

    private void refused(String name, ToLongFunction<MinuteBook> call, long code) {
        Twins.refused(edges, name, Twins::usual, call, code);
    }

    private void refused(String name, Consumer<MinuteBook> more, ToLongFunction<MinuteBook> call, long code) {
        Twins.refused(edges, name, x -> {
            Twins.usual(x);
            more.accept(x);
        }, call, code);
    }

    private static void fillTape(MinuteBook x) {
        x.book(0);
        Check.feed(x, Twins.FIRST_TEXT + " ".repeat(900 - Twins.FIRST_TEXT.length()));
    }

    private void ofTheBook() {
        refused("feed", RefusedEdges::fillTape, x -> x.feed(-1, 0, 1, 2, 3), -5);
        for (int n : new int[] {-1, 41, 900, 901, LEAST, MOST}) {
            refused("book(" + n + ")", x -> x.book(n), -3);
        }
        refused("book(901) of 900", RefusedEdges::fillTape, x -> x.book(901), -3);
        refused("member(2, 0)", x -> x.member(2, 0), -2);
        refused("member(-1, 1)", x -> x.member(-1, 1), -2);
        refused("member(0, 3)", x -> x.member(0, 3), -2);
        refused("saying(3, 0)", x -> x.saying(3, 0), -99000002);
        refused("saying(-1, 2)", x -> x.saying(-1, 2), -99000002);
        refused("saying(0, 3)", x -> x.saying(0, 3), -99000002);
    }

    private void ofDeeds() {
        refused("say(2, 0)", x -> x.say(2, 0), -11);
        refused("say(0, 3)", x -> x.say(0, 3), -11);
        refused("say(-1, -1)", x -> x.say(-1, -1), -11);
        refused("say(1, 2)", x -> x.say(1, 2), -12);
        refused("mark(2, 0)", x -> x.mark(2, 0), -11);
        refused("mark(0, 10)", x -> x.mark(0, 10), -11);
        refused("mark(0, -1)", x -> x.mark(0, -1), -11);
        refused("mark(-1, 5)", x -> x.mark(-1, 5), -11);
        for (int n : new int[] {0, -1, 4, 10, 11, LEAST, MOST}) {
            refused("undo(" + n + ")", x -> x.undo(n), -3);
        }
        refused("judge(4, 0)", x -> x.judge(4, 0), -2);
        refused("judge(0, 4)", x -> x.judge(0, 4), -2);
        refused("judge(3, 0)", x -> x.judge(3, 0), -6);
        refused("perform(4)", x -> x.perform(4), -2);
        refused("perform(-1)", x -> x.perform(-1), -2);
        refused("perform(3)", x -> x.perform(3), -6);
        refused("perform of none that can be", x -> x.write(0, 0, 99), x -> x.perform(0), 0);
        for (int times : new int[] {0, 41, -1, LEAST, MOST}) {
            refused("monday(1, " + times + ")", x -> x.monday(1, times), -3);
        }
    }

    private void ofMinutes() {
        for (int tone : new int[] {-2, 10, LEAST, MOST}) {
            refused("shortest(" + tone + ")", x -> x.shortest(tone), -3);
            refused("minute(" + tone + ", 0)", x -> x.minute(tone, 0), -3);
            refused("rows(" + tone + ", 1)", x -> x.rows(tone, 1), -3);
            refused("without(0, " + tone + ")", x -> x.without(0, tone), -3);
            refused("needed(" + tone + ")", x -> x.needed(tone), -3);
            refused("full(" + tone + ")", x -> x.full(tone), -3);
            refused("fullMinute(" + tone + ", 0)", x -> x.fullMinute(tone, 0), -3);
            refused("calmest(" + tone + ", 0)", x -> x.calmest(tone, 0), -3);
            refused("errata(0, " + tone + ")", x -> x.errata(0, tone), -3);
            refused("right(0, " + tone + ", 0)", x -> x.right(0, tone, 0), -3);
            refused("back(0, " + tone + ")", x -> x.back(0, tone), -3);
            refused("forces(" + tone + ")", x -> x.forces(tone), -3);
            refused("best(" + tone + ")", x -> x.best(tone), -3);
            refused("stroke(" + tone + ", 0)", x -> x.stroke(tone, 0), -3);
            refused("lists(0, " + tone + ")", x -> x.lists(0, tone), -3);
        }
        refused("minute(-1, -1)", x -> x.minute(-1, -1), -3);
        refused("rows(-1, -1)", x -> x.rows(-1, -1), -3);
        refused("rows(-1, 11)", x -> x.rows(-1, 11), -3);
        refused("without(2, -1)", x -> x.without(2, -1), -2);
        refused("fullMinute(-1, -1)", x -> x.fullMinute(-1, -1), -3);
        refused("calmest(-1, 2)", x -> x.calmest(-1, 2), -2);
        refused("calmest(-1, 30)", x -> x.calmest(-1, 30), -2);
        refused("right(0, -1, -1)", x -> x.right(0, -1, -1), -3);
        refused("stroke(-1, 2)", x -> x.stroke(-1, 2), -2);
        refused("stroke(8, 0)", x -> {
            x.book(0);
            Check.read(x, "book tone 0 heat 9;member;saying up 1;saying cool 1;");
        }, x -> x.stroke(8, 0), -4);
    }

    private void ofTray(String name, java.util.function.ToLongBiFunction<MinuteBook, Integer> call, int most) {
        refused(name + " of tray 4", x -> call.applyAsLong(x, 4), -2);
        refused(name + " of tray -1", x -> call.applyAsLong(x, -1), -2);
        refused(name + " of tray 3", x -> call.applyAsLong(x, 3), -6);
        refused(name + " of none", x -> x.numbers(2, 1, 0), x -> call.applyAsLong(x, 2), -4);
        refused(name + " of " + (most + 1), x -> x.numbers(2, 1, most + 1), x -> call.applyAsLong(x, 2), -4);
        refused(name + " of no minute", x -> x.write(2, 1, 3), x -> call.applyAsLong(x, 2), -3);
        refused(name + " of -2", x -> x.write(2, 0, -2), x -> call.applyAsLong(x, 2), -3);
    }

    private void ofMinutesInTrays() {
        ofTray("baulk", (x, tray) -> x.baulk(tray), 12);
        ofTray("errata", (x, tray) -> x.errata(tray, -1), 12);
        ofTray("right", (x, tray) -> x.right(tray, -1, 0), 12);
        ofTray("back", (x, tray) -> x.back(tray, -1), 12);
        ofTray("lost", (x, tray) -> x.lost(tray), 10);
        ofTray("sureMinute", (x, tray) -> x.sureMinute(tray, 0), 10);
        ofTray("speakers", (x, tray) -> x.speakers(tray, 0), 10);
        ofTray("kept", (x, tray) -> x.kept(tray, 0), 12);
        ofTray("attempt", (x, tray) -> x.attempt(tray, 0), 12);
        refused("sureMinute(2, 2)", x -> x.sureMinute(2, 2), -7);
        refused("sureMinute(2, -1)", x -> x.sureMinute(2, -1), -7);
        refused("speakers(2, 2)", x -> x.speakers(2, 2), -7);
        refused("speakers(2, -1)", x -> x.speakers(2, -1), -7);
        refused("kept(0, 2)", x -> x.kept(0, 2), -2);
        refused("attempt(0, -1)", x -> x.attempt(0, -1), -2);
    }

    private void ofTraysAndImages() {
        refused("numbers(4, 0, 1)", x -> x.numbers(4, 0, 1), -2);
        refused("numbers(0, 4, 1)", x -> x.numbers(0, 4, 1), -2);
        refused("numbers(0, -1, 1)", x -> x.numbers(0, -1, 1), -2);
        for (int tray = 0; tray < 4; tray++) {
            int which = tray;
            refused("numbers(" + tray + ", 2, 41)", x -> x.numbers(which, 2, 41), -3);
            refused("numbers(" + tray + ", 2, -1)", x -> x.numbers(which, 2, -1), -3);
        }
        refused("write(4, 0, 1)", x -> x.write(4, 0, 1), -2);
        refused("write(3, 0, 1)", x -> x.write(3, 0, 1), -6);
        refused("write(0, 3, 1)", x -> x.write(0, 3, 1), -7);
        refused("write(0, -1, 1)", x -> x.write(0, -1, 1), -7);
        refused("lists(4, -1)", x -> x.lists(4, -1), -2);
        refused("lists(3, -1)", x -> x.lists(3, -1), -6);
        refused("lists(0, -1), there are none", x -> {
            x.mark(0, 9);
            x.mark(1, 9);
        }, x -> x.lists(0, 9), -5);
        refused("image(2)", x -> x.image(2), -2);
        refused("image(-1)", x -> x.image(-1), -2);
        refused("restore(2)", x -> x.restore(2), -2);
        refused("restore(-1)", x -> x.restore(-1), -2);
        refused("restore(1)", x -> x.restore(1), -5);
    }

    /** What only answers changes nothing, either: the twin was asked nothing. */
    private void answersChangeNothing() {
        Twins.alike(edges, "calls that only answer", x -> {
            Twins.usual(x);
            x.member(0, 1);
            x.saying(0, 2);
            x.closed();
            x.open();
            x.judge(1, 0);
            x.judge(1, 1);
            x.judge(1, 2);
            x.judge(1, 3);
            x.shortest(4);
            x.minute(4, 0);
            x.rows(4, 5);
            x.without(0, 4);
            x.needed(4);
            x.full(4);
            x.fullMinute(4, 1);
            x.tones();
            x.calmest(4, 10);
            x.keyword();
            x.baulk(0);
            x.errata(0, 4);
            x.right(0, 4, 1);
            x.back(0, 4);
            x.lost(2);
            x.sureMinute(2, 0);
            x.speakers(2, 0);
            x.kept(0, 1);
            x.attempt(0, 1);
            x.forces(4);
            x.best(4);
            x.power();
            x.stroke(4, 0);
            x.likeliest();
            x.count(0);
            x.fault(0);
        }, Twins::usual);
    }

    private static MinuteBook usual() {
        MinuteBook x = new MinuteBook();
        Twins.usual(x);
        return x;
    }

    private void codes() {
        edges.says("-2 there is none such; -3 a number can't be; -4 too many; -5 it can't be now; -6 a TRAY is MISSING; -7 it has no such number; -11, -12 why not (1, 2); -30 less the FAULT: a text.");
        MinuteBook x = usual();
        edges.due("none such", x.image(2), -2);
        edges.due("a number can't be", x.undo(0), -3);
        x.numbers(0, 0, 13);
        edges.due("too many", x.baulk(0), -4);
        edges.due("it can't be now", x.restore(1), -5);
        edges.due("missing", x.perform(3), -6);
        edges.due("no such number", x.write(0, 13, 1), -7);
        edges.due("why not: 1", x.say(2, 0), -11);
        edges.due("why not: 2", x.say(1, 2), -12);
        edges.due("a text", x.book(39), -31);
    }

    private void order() {
        edges.says("(Of several that which the call tells first; all these ahead of NONE.)");
        MinuteBook x = usual();
        edges.due("judge: -2 ahead of -6", x.judge(3, 4), -2);
        edges.due("say: -11 ahead of -12", x.say(1, 3), -11);
        edges.due("without: -2 ahead of -3", x.without(2, 10), -2);
        edges.due("calmest: -2 ahead of -3", x.calmest(10, 30), -2);
        edges.due("stroke: -2 ahead of -3", x.stroke(10, 2), -2);
        edges.due("errata: -2 ahead of -3", x.errata(4, 10), -2);
        edges.due("errata: -6 ahead of -3", x.errata(3, 10), -6);
        edges.due("right: -6 ahead of -3", x.right(3, 10, -1), -6);
        edges.due("back: -2 ahead of -3", x.back(-1, 10), -2);
        edges.due("kept: -2 of the member ahead of -6", x.kept(3, 2), -2);
        edges.due("attempt: -2 of the member ahead of -6", x.attempt(3, 2), -2);
        edges.due("sureMinute: -6 ahead of -7", x.sureMinute(3, 9), -6);
        edges.due("speakers: -2 ahead of -7", x.speakers(4, 9), -2);
        edges.due("numbers: -2 ahead of -3", x.numbers(0, 4, 41), -2);
        edges.due("write: -6 ahead of -7", x.write(3, 50, 1), -6);
        edges.due("lists: -6 ahead of -3", x.lists(3, 10), -6);
        edges.due("restore: -2 ahead of -5", x.restore(2), -2);
        x.numbers(3, 2, 13);
        x.write(3, 0, 99);
        edges.due("errata: -4 ahead of both -3", x.errata(3, 10), -4);
        edges.due("baulk: -4 ahead of -3", x.baulk(3), -4);
        edges.due("lost: -4 ahead of -3", x.lost(3), -4);
        edges.due("speakers: -4 ahead of -7", x.speakers(3, 13), -4);
        edges.due("kept: -2 ahead of -4", x.kept(3, 2), -2);
        edges.due("kept: -4 ahead of -3", x.kept(3, 1), -4);
        x.numbers(3, 2, 2);
        x.write(3, 1, 99);
        edges.due("sureMinute: -3 ahead of -7", x.sureMinute(3, 2), -3);
        edges.due("kept: -2 ahead of -3", x.kept(3, 2), -2);
        aheadOfNone();
    }

    private void aheadOfNone() {
        MinuteBook none = Check.told("book tone 4 heat 1;member;saying up 1;would : tone < 6;");
        Check.lay(none, 0, 0, 0);
        edges.due("none", none.shortest(-1), -1);
        edges.due("shortest", none.shortest(10), -3);
        edges.due("minute", none.minute(-1, -1), -3);
        edges.due("without", none.without(1, -1), -2);
        edges.due("needed", none.needed(10), -3);
        edges.due("full", none.full(10), -3);
        edges.due("fullMinute", none.fullMinute(-1, -1), -3);
        edges.due("calmest: what", none.calmest(-1, 2), -2);
        edges.due("calmest: tone", none.calmest(10, 0), -3);
        edges.due("errata", none.errata(0, 10), -3);
        edges.due("right", none.right(0, -1, -1), -3);
        edges.due("back", none.back(0, 10), -3);
        edges.due("sureMinute", none.sureMinute(0, 2), -7);
        edges.due("speakers", none.speakers(0, -1), -7);
        Check.lay(none, 0, 0, 0, 0);
        edges.due("no marks", none.kept(0, 0), 0);
        edges.due("attempt, none", none.attempt(0, 0), -1);
        edges.due("attempt", none.attempt(0, 1), -2);
        edges.due("baulk, at the third", none.baulk(0), 2);
        edges.due("forces", none.forces(10), -3);
        edges.due("best", none.best(10), -3);
        edges.due("stroke: what", none.stroke(-1, 2), -2);
        edges.due("stroke: tone", none.stroke(10, 0), -3);
        edges.due("lists: -3 ahead of -5", none.lists(0, 10), -3);
        edges.due("lists: -5", none.lists(0, -1), -5);
    }
}
