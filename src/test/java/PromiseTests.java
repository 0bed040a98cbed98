/** For each promise of the document: ordinary calls, the edges that it names, and wrong ones. */
public final class PromiseTests {
    private static final Check CHECK = new Check();
    private static final int LEAST = Integer.MIN_VALUE;
    private static final int MOST = Integer.MAX_VALUE;

    /** Two members, three sayings, no laws. */
    private static final String PLAIN =
        "book tone 5 heat 2;member mark 3;member;saying up 1;saying cool 1;saying down 2 warm 1;stroke 3;";
    /** Member 0 turns the tone up, member 1 cools as long as its mark is above the tone. */
    private static final String CORRIDOR = "book tone 0 heat 3;member;member mark 5;saying up 1;saying cool 1;"
        + "would : who = 0 and saying = 0 or who = 1 and saying = 1 and mark > tone;closes : heat = 0;";
    private static final String START = "book tone 1 heat 1;";

    public static void main(String[] args) {
        promise1();
        promise2();
        promise3();
        promise3AndFaults();
        promise4();
        tokens();
        faultsOfLaws();
        laws();
        promise5();
        promise6();
        promise7();
        promise8();
        promise9();
        promise10();
        promise11();
        promise12();
        promise13();
        promise14();
        promise15();
        promise16();
        promise17();
        promise18();
        promise19();
        promise20();
        promise21();
        promise22();
        promise23();
        promise24();
        promise25();
        promise26();
        promise27();
        promise28();
        promise29();
        promise30();
        promise31();
        promise32();
        promise33();
        promise34();
        promise35();
        promise36();
        promise37();
        promise38();
        promise39();
        promise40();
        promise41();
        promise42();
        promise43And44();
        promise45();
        CHECK.end();
    }

    private static void due(String call, long got, long want) {
        CHECK.due(call, got, want);
    }

    private static MinuteBook told(String text) {
        return Check.told(text);
    }

    private static void promise1() {
        CHECK.about("promise 1");
        MinuteBook x = new MinuteBook();
        long[] counts = {0, 0, -1, 0, 0, 0, 0, 0, 0, 0};
        for (int what = 0; what < counts.length; what++) {
            due("count(" + what + ")", x.count(what), counts[what]);
        }
        due("member(0, 0)", x.member(0, 0), -2);
        due("saying(0, 0)", x.saying(0, 0), -99000002);
        due("closed()", x.closed(), 1);
        due("open()", x.open(), 0);
        due("shortest(0)", x.shortest(0), 0);
        due("full(0)", x.full(0), 0);
        due("tones()", x.tones(), 1);
    }

    private static void promise2() {
        CHECK.about("promise 2: feed");
        MinuteBook x = new MinuteBook();
        for (int i = 1; i <= 45; i++) {
            due("feed, time " + i, x.feed(i, -1, 0, LEAST, MOST), 20 * i);
        }
        due("feed, time 46", x.feed(0, 0, 0, 0, 0), -5);
        due("count(8)", x.count(8), 900);
        due("book(901)", x.book(901), -3);
        due("book(900)", x.book(900), -31);
        due("feed again", x.feed(0, 0, 0, 0, 0), 20);
        // The highest byte of each int first: 'book', ' ton', 'e 7 ', 'heat', ' 8; '.
        MinuteBook y = new MinuteBook();
        y.feed(0x626f6f6b, 0x20746f6e, 0x65203720, 0x68656174, 0x20383b20);
        due("book(20)", y.book(20), 1);
        due("count(0)", y.count(0), 7);
        due("count(1)", y.count(1), 8);
    }

    private static void promise3() {
        CHECK.about("promise 3: book");
        MinuteBook x = new MinuteBook();
        Check.feed(x, PLAIN);
        due("book(-1)", x.book(-1), -3);
        due("book(101)", x.book(101), -3);
        due("book(least)", x.book(LEAST), -3);
        due("the tape stays", x.count(8), 100);
        due("the first 19 bytes", x.book(19), 1);
        due("the tape is empty", x.count(8), 0);
        due("no members", x.count(3), 0);
        due("book of all", Check.read(x, PLAIN), 7);
        x.say(0, 0);
        x.mark(1, 8);
        due("book again", Check.read(x, PLAIN), 7);
        due("tone", x.count(0), 5);
        due("heat", x.count(1), 2);
        due("nobody spoke", x.count(2), -1);
        due("minutes said", x.count(5), 0);
        due("marks", x.count(6), 3);
        due("nothing can be undone", x.count(7), 0);
        due("lines", x.count(9), 7);
        // Later ones strike: of up and down, of warm and cool, of a mark, of would, closes and stroke.
        MinuteBook y = told("book tone 1 heat 1;saying up 3 down 9 up 2 warm 1 cool 4;member mark 9 mark 8;would : 1 = 2;"
            + "would : 1 = 1;closes : 1 = 2;closes : heat = 1;stroke 1;stroke 10;");
        due("turn of tone", y.saying(0, 0), 2);
        due("turn of heat", y.saying(0, 1), -4);
        due("mark", y.member(0, 0), 8);
        due("the later would", y.open(), 1);
        due("the later closes", y.closed(), 1);
        due("the later stroke", told("book tone 0 heat 2;member;saying cool 1;stroke 1;stroke 10;").stroke(-1, 0), 0);
        due("nothing told", told(START + "member;saying;").count(6), 0);
    }

    private static void promise3AndFaults() {
        CHECK.about("promise 3: book with a fault");
        MinuteBook x = told(PLAIN);
        x.say(0, 0);
        x.mark(1, 8);
        due("a fault", Check.read(x, "book tone 1 heat 1;member mark 4;saying down 3;would : 1;"), -32);
        due("the tape is empty", x.count(8), 0);
        due("tone", x.count(0), 6);
        due("last", x.count(2), 0);
        due("members", x.count(3), 2);
        due("sayings", x.count(4), 3);
        due("marks", x.count(6), 11);
        due("calls to undo", x.count(7), 2);
        due("lines", x.count(9), 7);
        due("turn of tone", x.saying(2, 0), -2);
        due("say", x.say(1, 2), 43);
        due("adjourn", x.adjourn(), 2);
        due("tone at first", x.count(0), 5);
    }

    private static void fault(String text, int kind, int place) {
        MinuteBook x = new MinuteBook();
        due(text, Check.read(x, text), -30 - kind);
        due(text + " fault(0)", x.fault(0), kind);
        due(text + " fault(1)", x.fault(1), place);
    }

    private static void right(String text, int lines) {
        MinuteBook x = new MinuteBook();
        due(text, Check.read(x, text), lines);
        due(text + " fault(0)", x.fault(0), 0);
        due(text + " fault(1)", x.fault(1), -1);
    }

    private static void promise4() {
        CHECK.about("promise 4: fault");
        MinuteBook x = new MinuteBook();
        due("fault(0) at first", x.fault(0), 0);
        due("fault(1) at first", x.fault(1), -1);
        due("a fault", Check.read(x, "book tone 10 heat 1;"), -33);
        due("fault(0)", x.fault(0), 3);
        due("fault(1)", x.fault(1), 10);
        due("fault(2)", x.fault(2), -1);
        due("fault(-1)", x.fault(-1), -1);
        due("not read", x.book(1), -3);
        due("fault(0) stays", x.fault(0), 3);
        due("fault(1) stays", x.fault(1), 10);
        due("a right text", Check.read(x, START), 1);
        due("fault(0)", x.fault(0), 0);
        due("fault(1)", x.fault(1), -1);
    }

    private static void tokens() {
        CHECK.about("promises 3, 4: tokens and lines");
        fault("", 2, 0);
        fault("  \n", 2, 3);
        fault("member;", 2, 0);
        fault("book", 2, 4);
        fault("book;", 2, 4);
        fault("book heat 1 tone 1;", 2, 5);
        fault("book tone ;", 2, 10);
        fault("book tone 10 heat 99;", 3, 10);
        fault("book tone 1 heat 10;", 3, 17);
        fault("book tone 1 heat 1", 2, 18);
        fault("book tone 1 heat 1;;", 2, 19);
        fault(START + START, 2, 19);
        fault(START + "tea;", 2, 19);
        fault(START + "members;", 2, 19);
        fault(START + "member", 2, 25);
        fault(START + "member\n ", 2, 27);
        fault(START + "member 1;", 2, 26);
        fault(START + "member mark 10;", 3, 31);
        fault(START + "member mark;", 2, 30);
        fault(START + "member mark 1 up 1;", 2, 33);
        fault(START + "saying mark 1;", 2, 26);
        fault(START + "saying up 10;", 3, 29);
        fault(START + "saying cool 100;", 3, 31);
        fault(START + "saying up down 1;", 2, 29);
        fault(START + "stroke;", 2, 25);
        fault(START + "stroke 11;", 3, 26);
        fault(START + "stroke 1 1;", 2, 28);
        fault(START + "member;".repeat(7), 4, 61);
        fault(START + "member;".repeat(6) + "member mark 10;", 4, 61);
        fault(START + "saying;".repeat(9), 4, 75);
        // The first along the text, of one token the least kind.
        fault("book tone 10 heat ?;", 3, 10);
        fault("book tone 1 heat 1 ?;", 1, 19);
        fault("? book tone 10;", 1, 0);
        fault("book tone 1000 heat 1;", 1, 10);
        fault("book tone 0001 heat 1;", 1, 10);
        fault(START + "member 10;", 2, 26);
        fault(START + "member 1000;", 1, 26);
        fault(START + "member,", 1, 25);
        fault(START + "Member;", 1, 19);
        fault(START + "member\t;", 1, 25);
        fault(START + "member\r;", 1, 25);
        fault(START + "m" + (char) 233 + "mber;", 2, 19);
        fault(START + (char) 200 + ";", 1, 19);
        fault(START + (char) 0, 1, 19);
        fault("1 book", 2, 0);
        // Tokens go on as long as they can, blanks are needed only where they would run on.
        right(START, 1);
        right("book tone1heat 1;\nmember mark009mark 7;saying up1down2warm3cool4;stroke010;", 4);
        right(START + " \n ", 1);
        right(START + "would:1=1;closes:[not(1)<2]or tone>heat;", 3);
        right(START + "member;".repeat(6) + "saying;".repeat(8), 15);
        fault("booktone 1 heat 1;", 2, 0);
        fault(START + "zany az;", 2, 19);
        fault(";".repeat(900), 2, 0);
        fault(START + "saying" + " up 1".repeat(170) + "mark", 2, 875);
        fault(START + "saying up 1 1;", 2, 31);
        due("a text of 900 bytes", Check.read(new MinuteBook(), START + "stroke 10;".repeat(88) + " "), 89);
    }

    private static void faultsOfLaws() {
        CHECK.about("promises 3, 4: laws");
        String would = START + "would : ";
        fault(START + "would 1 = 1;", 2, 25);
        fault(would + ";", 2, 27);
        fault(would + "1;", 2, 28);
        fault(would + "1 =;", 2, 30);
        fault(would + "1 = 1 = 1;", 2, 33);
        fault(would + "1 = 1 and;", 2, 36);
        fault(would + "1 = 1 or", 2, 35);
        fault(would + "1 = 1 1 = 1;", 2, 33);
        fault(would + "tone heat;", 2, 32);
        fault(would + "1 + = 1;", 2, 31);
        fault(would + "- 1 = 1;", 2, 27);
        fault(would + "* 1 = 1;", 2, 27);
        fault(would + "() = 1;", 2, 28);
        fault(would + "(1 = 1;", 2, 30);
        fault(would + "(1 = 1);", 2, 30);
        fault(would + "[1] = 1;", 2, 29);
        fault(would + "[1 = 1;", 2, 33);
        fault(would + "1 = 1];", 2, 32);
        fault(would + "not;", 2, 30);
        fault(would + "1 = not 1;", 2, 31);
        fault(would + "1 = 1000;", 1, 31);
        fault(would + "book = 1;", 2, 27);
        fault(would + "stroke = 1;", 2, 27);
        fault(would + "1 ? 1;", 1, 29);
        for (String word : new String[] {"who", "mark", "saying"}) {
            fault(START + "closes : " + word + " = 1;", 2, 28);
            right(would + word + " = 1;", 2);
        }
        for (String word : new String[] {"tone", "heat", "last", "999"}) {
            right(would + word + " = 1;", 2);
            right(START + "closes : 1 < " + word + ";", 2);
        }
        right(would + "not [ not [ ( ( 1 ) ) = 1 ] ];", 2);
        fault(would + "not [ not [ ( ( ( 1 ) ) ) = 1 ] ];", 4, 43);
        right(would + "((((((1)))))) = ((((((1))))));", 2);
        fault(would + "(((((((1;", 4, 33);
        right(would + "[[[[[[1 = 1]]]]]];", 2);
        fault(would + "[[[[[[[1 = 1", 4, 33);
        fault(would + "[[[[[[(1) = 1", 4, 33);
        right(would + "not not not not not not 1 = 1;", 2);
        fault(would + "not not not not not not not 1 = 1;", 4, 51);
        fault(would + "not not not not not not (1) = 1;", 4, 51);
        // Side by side they are not within one another.
        right(would + "(1)+(1)+(1)+(1)+(1)+(1)+(1) = 7 and not 1 = 2 and not 1 = 2;", 2);
    }

    private static void law(String law, int holds) {
        due(law, told("book tone 4 heat 7;closes : " + law + ";").closed(), holds);
    }

    private static void laws() {
        CHECK.about("terms: laws");
        law("1 = 1", 1);
        law("1 = 2", 0);
        law("1 < 2", 1);
        law("2 < 2", 0);
        law("2 > 1", 1);
        law("2 > 2", 0);
        law("tone = 4 and heat = 7 and last = 9", 1);
        law("9 - 3 - 2 = 4", 1);
        law("2 + 3 * 4 = 14", 1);
        law("(2 + 3) * 4 = 20", 1);
        law("9 - (3 - 2) = 8", 1);
        law("1 - 3 < 0", 1);
        law("1 = 1 or 1 = 1 and 1 = 2", 1);
        law("[1 = 1 or 1 = 1] and 1 = 2", 0);
        law("not 1 = 2 and 1 = 2", 0);
        law("not [1 = 2 and 1 = 2]", 1);
        law("not not 1 = 1", 1);
        law("not 1 = 2 or 1 = 1", 1);
        law("999 * 999 * 999 = 999 * 999 * 2", 1);
        law("999 * 999 + 999 + 999 = 999 * 999 + 999 + 999 + 999", 0);
        law("999 * 999 + 999 + 999 + 1 = 999 * 999 + 999 + 999 + 999", 1);
        law("999 * 999 * 999 - 999 * 999 * 999 + 5 = 5", 1);
        law("0 - 999 * 999 - 999 * 999 = 0 - 999 * 999 * 2", 1);
        law("(0 - 999 * 999 * 2) * (0 - 999 * 999 * 2) = 999 * 999 * 2", 1);
        law("(0 - 999 * 999 * 2) * 999 + 1 = 0 - 999 * 999 - 999 - 999 - 1 + 1", 1);
        law("999 * 999 * 999 - 1 = 999 * 999 + 999 + 999", 1);
        law("0 - 999 * 999 - 999 * 999 + 1 = 0 - 999 * 999 - 999 - 999", 1);
    }

    private static void promise5() {
        CHECK.about("promise 5: member");
        MinuteBook x = told(CORRIDOR);
        due("member(1, 0)", x.member(1, 0), 5);
        due("member(0, 1)", x.member(0, 1), 1);
        due("member(1, 1)", x.member(1, 1), 2);
        due("member(0, 2)", x.member(0, 2), 0);
        x.say(0, 0);
        due("member(0, 2) then", x.member(0, 2), 1);
        due("member(1, 2) then", x.member(1, 2), 0);
        x.mark(1, 1);
        due("member(1, 0) marked", x.member(1, 0), 1);
        due("member(1, 1) marked", x.member(1, 1), 0);
        due("member(2, 0)", x.member(2, 0), -2);
        due("member(-1, 0)", x.member(-1, 0), -2);
        due("member(0, 3)", x.member(0, 3), -2);
        due("member(0, -1)", x.member(0, -1), -2);
        due("member(most, least)", x.member(MOST, LEAST), -2);
        due("the law asks last", told(START + "member;member;saying;would : last = 9 and who = 1;").member(1, 1), 1);
    }

    private static void promise6() {
        CHECK.about("promise 6: saying");
        MinuteBook x = told(PLAIN);
        due("saying(0, 0)", x.saying(0, 0), 1);
        due("saying(0, 1)", x.saying(0, 1), 0);
        due("saying(1, 1)", x.saying(1, 1), -1);
        due("saying(2, 0)", x.saying(2, 0), -2);
        due("saying(2, 1)", x.saying(2, 1), 1);
        due("saying(2, 2)", x.saying(2, 2), 3);
        due("saying(1, 2) in the corridor", told(CORRIDOR).saying(1, 2), 2);
        due("saying(3, 0)", x.saying(3, 0), -99000002);
        due("saying(-1, 0)", x.saying(-1, 0), -99000002);
        due("saying(0, 3)", x.saying(0, 3), -99000002);
        due("saying(0, -1)", x.saying(0, -1), -99000002);
        due("saying(least, most)", x.saying(LEAST, MOST), -99000002);
    }

    private static void promise7() {
        CHECK.about("promise 7: closed");
        due("no law, heat 0", told("book tone 1 heat 0;").closed(), 1);
        due("no law, heat 2", told(PLAIN).closed(), 0);
        MinuteBook x = told(START + "member;member;saying;closes : last = 1;");
        due("nobody spoke", x.closed(), 0);
        x.say(0, 0);
        due("0 spoke", x.closed(), 0);
        x.say(1, 0);
        due("1 spoke", x.closed(), 1);
    }

    private static void promise8() {
        CHECK.about("promise 8: open");
        due("plain", told(PLAIN).open(), 6);
        MinuteBook x = told(CORRIDOR);
        due("corridor", x.open(), 2);
        x.mark(1, 0);
        due("corridor, marked 0", x.open(), 1);
        due("no sayings", told(START + "member;").open(), 0);
        MinuteBook y = told("book tone 9 heat 9;" + "member;".repeat(6) + "saying;saying up 1;would : saying = 0 and tone = 9 and heat = 9;");
        y.say(5, 0);
        due("member 5 spoke last at tone 9, heat 9", y.open(), 6);
        due("48", told(START + "member;".repeat(6) + "saying;".repeat(8)).open(), 48);
    }

    private static void promise9() {
        CHECK.about("promise 9: say");
        MinuteBook x = told(CORRIDOR);
        due("say(0, 0)", x.say(0, 0), 13);
        due("say(1, 1)", x.say(1, 1), 12);
        due("last", x.count(2), 1);
        due("minutes said", x.count(5), 2);
        due("say(1, 0)", x.say(1, 0), -12);
        due("say(2, 0)", x.say(2, 0), -11);
        due("say(0, 2)", x.say(0, 2), -11);
        due("say(-1, 0)", x.say(-1, 0), -11);
        due("say(0, -1)", x.say(0, -1), -11);
        due("say(least, most)", x.say(LEAST, MOST), -11);
        due("all stays", x.count(7), 2);
        due("last stays", x.count(2), 1);
        MinuteBook y = told("book tone 8 heat 1;member;saying up 5 cool 7;saying down 9 warm 9;");
        due("not above 9, not below 0", y.say(0, 0), 90);
        due("the other way", y.say(0, 1), 9);
    }

    private static void promise10() {
        CHECK.about("promise 10: mark");
        MinuteBook x = told(PLAIN);
        due("mark(0, 9)", x.mark(0, 9), 3);
        due("mark(0, 0)", x.mark(0, 0), 9);
        due("mark(0, 0) again", x.mark(0, 0), 0);
        due("calls to undo", x.count(7), 3);
        due("mark(2, 0)", x.mark(2, 0), -11);
        due("mark(-1, 0)", x.mark(-1, 0), -11);
        due("mark(0, 10)", x.mark(0, 10), -11);
        due("mark(0, -1)", x.mark(0, -1), -11);
        due("calls to undo stay", x.count(7), 3);
        due("marks stay", x.count(6), 0);
    }

    private static void promise11() {
        CHECK.about("promise 11: adjourn");
        MinuteBook x = told(PLAIN);
        x.say(0, 0);
        x.mark(0, 7);
        x.say(1, 2);
        due("adjourn()", x.adjourn(), 2);
        due("tone", x.count(0), 5);
        due("heat", x.count(1), 2);
        due("nobody spoke", x.count(2), -1);
        due("minutes said", x.count(5), 0);
        due("marks stay", x.count(6), 7);
        due("adjourn() again", x.adjourn(), 0);
        due("calls to undo", x.count(7), 5);
    }

    private static void promise12() {
        CHECK.about("promise 12: undo");
        MinuteBook x = told(PLAIN);
        due("undo(1) at first", x.undo(1), -3);
        x.say(0, 0);
        x.mark(1, 4);
        x.say(1, 1);
        x.adjourn();
        due("undo(0)", x.undo(0), -3);
        due("undo(-1)", x.undo(-1), -3);
        due("undo(5)", x.undo(5), -3);
        due("undo(11)", x.undo(11), -3);
        due("undo(1)", x.undo(1), 3);
        due("tone", x.count(0), 6);
        due("heat", x.count(1), 1);
        due("last", x.count(2), 1);
        due("minutes said", x.count(5), 2);
        due("undo(2)", x.undo(2), 1);
        due("marks", x.count(6), 3);
        due("last then", x.count(2), 0);
        due("undo(1)", x.undo(1), 0);
        due("tone at first", x.count(0), 5);
        due("nobody spoke", x.count(2), -1);
        due("minutes said then", x.count(5), 0);
        for (int i = 0; i < 13; i++) {
            x.mark(0, i % 10);
        }
        due("10 at most", x.count(7), 10);
        due("undo(3)", x.undo(3), 7);
        due("the mark ahead of the eleventh", x.member(0, 0), 9);
        due("undo(7)", x.undo(7), 0);
        due("the eldest are forgotten", x.member(0, 0), 2);
        due("undo(1) then", x.undo(1), -3);
        x.say(0, 2);
        x.say(9, 9);
        x.mark(9, 9);
        due("refused calls are none", x.undo(1), 0);
        Check.lay(x, 0, 0, 104, -1, 11, 200);
        x.perform(0);
        x.monday(1, 40);
        due("each call as a whole", x.count(7), 2);
        due("undo(2)", x.undo(2), 0);
        due("marks then", x.count(6), 2);
    }

    private static void promise13() {
        CHECK.about("promise 13: judge");
        MinuteBook x = told(CORRIDOR);
        due("missing", x.judge(0, 0), -6);
        due("no such tray", x.judge(4, 0), -2);
        due("no such tray", x.judge(-1, 0), -2);
        due("no such what, missing", x.judge(0, 4), -2);
        due("no such what", x.judge(0, -1), -2);
        x.numbers(0, 0, 0);
        judged(x, 0, -1, 0, 3, 0);
        Check.lay(x, 0, 0, 11, 11, 11);
        judged(x, 0, -1, 0, 10, 1);
        Check.lay(x, 0, 11, 0, 110, 11, 0);
        judged(x, 0, 3, 2, 12, 0);
        Check.lay(x, 0, 11, 110, -1, 0, 119, 11, 11, 20);
        judged(x, 0, 7, 1, 11, 0);
        for (long wrong : new long[] {2, 20, 99, 120, 199, 200, -2, 1000000}) {
            Check.lay(x, 0, 0, wrong, 0);
            judged(x, 0, 1, 1, 13, 0);
        }
        x.numbers(1, 3, 1);
        x.write(1, 0, 1L << 32);
        judged(x, 1, 0, 1, 3, 0);
        MinuteBook y = told(START + "member;saying;would : 1 = 2;");
        Check.lay(y, 0, 104);
        judged(y, 0, -1, 0, 11, 0);
        due("nothing is done", x.count(7), 0);
        due("marks stay", x.count(6), 5);
        due("tone stays", x.count(0), 0);
        // From the sitting as it is now.
        x.say(0, 0);
        Check.lay(x, 0, 0);
        judged(x, 0, -1, 0, 23, 0);
    }

    private static void judged(MinuteBook x, int tray, int place, int why, int mood, int closes) {
        due("judge(tray, 0)", x.judge(tray, 0), place);
        due("judge(tray, 1)", x.judge(tray, 1), why);
        due("judge(tray, 2)", x.judge(tray, 2), mood);
        due("judge(tray, 3)", x.judge(tray, 3), closes);
    }

    private static void promise14() {
        CHECK.about("promise 14: perform");
        MinuteBook x = told(CORRIDOR);
        due("missing", x.perform(3), -6);
        due("no such tray", x.perform(4), -2);
        due("no such tray", x.perform(-1), -2);
        x.numbers(0, 1, 0);
        due("no deeds", x.perform(0), 0);
        Check.lay(x, 0, 10, 0);
        due("the first can't be", x.perform(0), 0);
        due("nothing to undo", x.count(7), 0);
        Check.lay(x, 0, 0, 11, 117, -1, 0, 0, 11, 10, 11);
        due("till one can't be", x.perform(0), 7);
        due("tone", x.count(0), 2);
        due("heat", x.count(1), 2);
        due("last", x.count(2), 1);
        due("minutes said", x.count(5), 3);
        due("mark", x.member(1, 0), 7);
        due("one call to undo", x.undo(1), 0);
        due("tone then", x.count(0), 0);
        due("mark then", x.member(1, 0), 5);
    }

    private static void promise15() {
        CHECK.about("promise 15: monday");
        due("no times", told(PLAIN).monday(1, 0), -3);
        due("41 times", told(PLAIN).monday(1, 41), -3);
        due("least times", told(PLAIN).monday(1, LEAST), -3);
        for (int seed : new int[] {0, 1, 7, -1, 12345, LEAST, MOST}) {
            for (int times : new int[] {1, 2, 13, 40}) {
                MinuteBook x = told(CORRIDOR + "member mark 2;saying warm 1 down 1;");
                MinuteBook y = told(CORRIDOR + "member mark 2;saying warm 1 down 1;");
                String call = "monday(" + seed + ", " + times + ")";
                int done = mondayByCalls(y, seed, times);
                due(call, x.monday(seed, times), done);
                for (int what = 0; what < 7; what++) {
                    due(call + " count(" + what + ")", x.count(what), y.count(what));
                }
                due(call + " count(7)", x.count(7), done > 0 ? 1 : 0);
            }
        }
    }

    private static int mondayByCalls(MinuteBook y, int seed, int times) {
        int[] x = {seed};
        int done = 0;
        for (int i = 0; i < times; i++) {
            int kind = draw(x) % 6;
            int answer = 0;
            if (kind <= 3) {
                int m = draw(x) % 6;
                answer = y.say(m, draw(x) % 8);
            } else if (kind == 4) {
                int m = draw(x) % 6;
                answer = y.mark(m, draw(x) % 10);
            } else {
                y.adjourn();
            }
            done += answer >= 0 ? 1 : 0;
        }
        return done;
    }

    private static int draw(int[] x) {
        x[0] = 1103515245 * x[0] + 12345;
        return x[0] >>> 16;
    }

    private static void promise16() {
        CHECK.about("promise 16: shortest");
        MinuteBook x = told(CORRIDOR);
        due("shortest(-1)", x.shortest(-1), 3);
        for (int tone = 0; tone < 10; tone++) {
            due("shortest(" + tone + ")", x.shortest(tone), 3 + tone);
        }
        due("shortest(10)", x.shortest(10), -3);
        due("shortest(-2)", x.shortest(-2), -3);
        x.mark(1, 2);
        due("mark 2, shortest(9)", x.shortest(9), 12);
        x.mark(1, 0);
        due("mark 0, shortest(9)", x.shortest(9), -1);
        due("mark 0, shortest(-1)", x.shortest(-1), -1);
        x.undo(2);
        x.say(1, 1);
        x.say(1, 1);
        x.say(1, 1);
        due("it is one now", x.shortest(-1), 0);
        due("with another tone", x.shortest(2), 2);
        x.say(0, 0);
        due("never again", x.shortest(0), -1);
    }

    private static void row(String call, java.util.function.IntUnaryOperator minute, int... row) {
        for (int i = 0; i < row.length; i++) {
            due(call + " " + i, minute.applyAsInt(i), row[i]);
        }
        due(call + " behind", minute.applyAsInt(row.length), -1);
        due(call + " most", minute.applyAsInt(MOST), -1);
        due(call + " -1", minute.applyAsInt(-1), -3);
    }

    private static void promise17() {
        CHECK.about("promise 17: minute");
        MinuteBook x = told(CORRIDOR);
        row("minute(-1, i)", i -> x.minute(-1, i), 11, 11, 11);
        row("minute(1, i)", i -> x.minute(1, i), 0, 11, 11, 11);
        row("minute(5, i)", i -> x.minute(5, i), 0, 0, 0, 0, 11, 11, 11, 0);
        row("minute(9, i)", i -> x.minute(9, i), 0, 0, 0, 0, 11, 11, 11, 0, 0, 0, 0, 0);
        due("minute(10, 0)", x.minute(10, 0), -3);
        due("minute(-2, 0)", x.minute(-2, 0), -3);
        MinuteBook y = told("book tone 0 heat 1;member;member;saying;saying cool 1;saying cool 2;");
        row("the first of like ones", i -> y.minute(-1, i), 1);
        x.mark(1, 0);
        row("there are none", i -> x.minute(0, i));
    }

    private static void promise18() {
        CHECK.about("promise 18: rows");
        MinuteBook x = told(CORRIDOR);
        due("rows(0, 3)", x.rows(0, 3), 1);
        due("rows(1, 4)", x.rows(1, 4), 4);
        due("rows(-1, 4)", x.rows(-1, 4), 5);
        due("rows(-1, 0)", x.rows(-1, 0), 0);
        due("rows(-1, 2)", x.rows(-1, 2), 0);
        due("rows(5, 8): all but those with 5 ups ahead of the third cool", x.rows(5, 8), 35);
        due("rows(0, 11)", x.rows(0, 11), -3);
        due("rows(0, -1)", x.rows(0, -1), -3);
        due("rows(10, 1)", x.rows(10, 1), -3);
        due("rows(-2, 1)", x.rows(-2, 1), -3);
        MinuteBook y = told("book tone 0 heat 0;" + "member;".repeat(6) + "saying;".repeat(8));
        due("48 to the 10th", y.rows(-1, 10), 64925062108545024L);
        due("one now", y.rows(0, 0), 1);
        due("with another tone", y.rows(1, 10), 0);
    }

    private static void promise19() {
        CHECK.about("promise 19: without");
        MinuteBook x = told(CORRIDOR);
        due("without(0, 0)", x.without(0, 0), 3);
        due("without(0, -1)", x.without(0, -1), 3);
        due("without(0, 1)", x.without(0, 1), -1);
        due("without(1, -1)", x.without(1, -1), -1);
        due("without(2, 0)", x.without(2, 0), -2);
        due("without(-1, 10)", x.without(-1, 10), -2);
        due("without(0, 10)", x.without(0, 10), -3);
        due("one now", told("book tone 3 heat 0;member;").without(0, 3), 0);
    }

    private static void promise20() {
        CHECK.about("promise 20: needed");
        MinuteBook x = told(CORRIDOR);
        due("needed(0)", x.needed(0), 2);
        due("needed(-1)", x.needed(-1), 2);
        due("needed(1)", x.needed(1), 3);
        due("needed(10)", x.needed(10), -3);
        x.mark(1, 0);
        due("none anyhow", x.needed(1), 0);
        due("nobody alone", told(PLAIN).needed(5), 0);
    }

    private static void promise21() {
        CHECK.about("promise 21: full");
        MinuteBook x = told(CORRIDOR);
        due("full(-1)", x.full(-1), 4);
        due("full(0)", x.full(0), -1);
        due("full(1)", x.full(1), 4);
        due("full(2)", x.full(2), 5);
        due("full(10)", x.full(10), -3);
        due("full(-2)", x.full(-2), -3);
        due("shortest(-1)", x.shortest(-1), 3);
        due("full(-1) behind it", x.full(-1), 4);
        due("shortest(-1) behind that", x.shortest(-1), 3);
        x.say(0, 0);
        due("who spoke ahead of now does not count", x.full(1), -1);
        due("full(2) then", x.full(2), 4);
        MinuteBook y = told("book tone 0 heat 0;" + "member;".repeat(6) + "saying;would : who = last + 1 or last = 9 and who = 0;");
        due("all six", y.full(0), 6);
        due("nobody to speak", told("book tone 0 heat 0;saying;").full(0), 0);
    }

    private static void promise22() {
        CHECK.about("promise 22: fullMinute");
        MinuteBook x = told(CORRIDOR);
        row("fullMinute(-1, i)", i -> x.fullMinute(-1, i), 0, 11, 11, 11);
        row("fullMinute(0, i)", i -> x.fullMinute(0, i));
        row("fullMinute(2, i)", i -> x.fullMinute(2, i), 0, 0, 11, 11, 11);
        due("fullMinute(10, 0)", x.fullMinute(10, 0), -3);
        MinuteBook y = told("book tone 0 heat 0;" + "member;".repeat(6) + "saying;would : who = last + 1 or last = 9 and who = 0;");
        row("all six", i -> y.fullMinute(0, i), 0, 10, 20, 30, 40, 50);
    }

    private static void promise23() {
        CHECK.about("promise 23: tones");
        MinuteBook x = told(CORRIDOR);
        due("tones()", x.tones(), 1023);
        x.say(0, 0);
        due("tones() behind one up", x.tones(), 1022);
        x.mark(1, 0);
        due("none", x.tones(), 0);
        due("now only", told("book tone 4 heat 0;").tones(), 16);
    }

    private static void promise24() {
        CHECK.about("promise 24: calmest");
        // Two ways to tone 4: one minute of heat 9, or four by one each, with cooling between them.
        MinuteBook x = told("book tone 0 heat 3;member;saying up 4 warm 9;saying up 1 warm 1;saying cool 9;saying cool 1;"
            + "would : saying = 0 or saying > 1 or heat < 4;closes : tone = 4;");
        due("shortest(4)", x.shortest(4), 1);
        due("calmest(4, 0)", x.calmest(4, 0), 3);
        due("calmest(4, 1)", x.calmest(4, 1), 6);
        long[] due = {2, 1, 1, 1, 2, 1};
        for (int i = 0; i < due.length; i++) {
            due("calmest(4, 1" + i + ")", x.calmest(4, 10 + i), due[i]);
        }
        due("calmest(4, 16)", x.calmest(4, 16), -1);
        due("calmest(4, 29)", x.calmest(4, 29), -1);
        due("calmest(4, 30)", x.calmest(4, 30), -2);
        due("calmest(4, 9)", x.calmest(4, 9), -2);
        due("calmest(4, 2)", x.calmest(4, 2), -2);
        due("calmest(4, -1)", x.calmest(4, -1), -2);
        due("calmest(10, 30)", x.calmest(10, 30), -2);
        due("calmest(10, 0)", x.calmest(10, 0), -3);
        due("calmest(-2, 10)", x.calmest(-2, 10), -3);
        due("calmest(5, 0)", x.calmest(5, 0), -1);
        due("calmest(5, 1)", x.calmest(5, 1), -1);
        due("calmest(5, 10)", x.calmest(5, 10), -1);
        MinuteBook y = told("book tone 2 heat 6;closes : 1 = 1;");
        due("one now: its heat", y.calmest(-1, 0), 6);
        due("one now: no minutes", y.calmest(2, 1), 0);
        due("one now: none", y.calmest(2, 10), -1);
        MinuteBook z = told("book tone 2 heat 9;member;saying cool 9;");
        due("heat 9 now", z.calmest(-1, 0), 9);
        due("its minute", z.calmest(-1, 10), 0);
        due("heat 9 on the way", told("book tone 2 heat 0;member;saying warm 9 up 1;closes : tone = 3;").calmest(3, 0), 9);
    }

    private static void promise25() {
        CHECK.about("promise 25: keyword");
        due("corridor", told(CORRIDOR).keyword(), 1);
        due("the first of like ones", told("book tone 0 heat 4;member;saying cool 2;saying cool 2;").keyword(), -1);
        due("longer", told("book tone 0 heat 4;member;saying cool 1;saying cool 2;").keyword(), 1);
        due("longest", told("book tone 0 heat 1;member;saying up 1;saying cool 1;closes : tone = 1 and heat = 0;").keyword(), 0);
        due("one now", told("book tone 0 heat 0;member;saying;").keyword(), -1);
        due("none anyhow", told("book tone 0 heat 1;member;saying;").keyword(), -1);
    }

    private static void trayRefusals(String name, java.util.function.IntToLongFunction call, MinuteBook x, int most) {
        due(name + " of no such tray", call.applyAsLong(4), -2);
        due(name + " of tray -1", call.applyAsLong(-1), -2);
        due(name + " of a missing tray", call.applyAsLong(3), -6);
        x.numbers(2, 0, 0);
        due(name + " of no numbers", call.applyAsLong(2), -4);
        x.numbers(2, 0, most);
        due(name + " of " + most, call.applyAsLong(2) < -1 ? 1 : 0, 0);
        x.numbers(2, 0, most + 1);
        due(name + " of " + (most + 1), call.applyAsLong(2), -4);
        x.numbers(2, 0, 40);
        x.write(2, 0, 99);
        due(name + " of 40, one being no minute", call.applyAsLong(2), -4);
        for (long wrong : new long[] {2, 9, 20, 60, 100, -2}) {
            Check.lay(x, 2, 0, wrong);
            due(name + " of " + wrong, call.applyAsLong(2), -3);
        }
    }

    private static void promise26() {
        CHECK.about("promise 26: baulk");
        MinuteBook x = told(CORRIDOR);
        trayRefusals("baulk", x::baulk, x, 12);
        Check.lay(x, 0, 0, -1);
        due("NONE is no minute", x.baulk(0), -3);
        Check.lay(x, 0, 0, 0, 11);
        due("nobody", x.baulk(0), -1);
        Check.lay(x, 0, 1, 11);
        due("the first", x.baulk(0), 0);
        Check.lay(x, 0, 11, 0, 0, 0, 0, 11, 0, 11, 10);
        due("at tone 5", x.baulk(0), 7);
        MinuteBook y = told("book tone 0 heat 3;member;saying down 1;saying up 5;would : saying = 1 or tone < 5;");
        Check.lay(y, 0, 1, 0);
        due("behind saying 1", y.baulk(0), 1);
        Check.lay(x, 0, 0, 0, 0, 0, 0, 0, 0, 0, 0, 0, 0, 11);
        due("the last of 12", x.baulk(0), 11);
        Check.lay(x, 0, 11, 0, 0, 0, 0, 11, 0, 11, 10);
        x.mark(1, 9);
        due("by another mark", x.baulk(0), 8);
        x.mark(1, 0);
        due("at once", x.baulk(0), 0);
    }

    private static void promise27() {
        CHECK.about("promise 27: errata");
        MinuteBook x = told(CORRIDOR);
        trayRefusals("errata", tray -> x.errata(tray, -1), x, 12);
        Check.lay(x, 0, 11, 11, 11);
        due("right as told", x.errata(0, 0), 0);
        due("no such row", x.errata(0, 1), -1);
        due("errata(0, 10)", x.errata(0, 10), -3);
        due("errata(0, -2)", x.errata(0, -2), -3);
        due("errata(3, 10)", x.errata(3, 10), -6);
        Check.lay(x, 0, 10, 1, 0, 11);
        due("two are wrong", x.errata(0, 1), 2);
        due("any tone", x.errata(0, -1), 2);
        due("tone 0", x.errata(0, 0), 3);
        Check.lay(x, 0, 0, 0, 0, 0, 0, 11, 11, 11);
        due("two change places", x.errata(0, 5), 2);
        x.say(0, 0);
        due("behind an up: three change", x.errata(0, 5), 3);
        x.undo(1);
        due("as it was", x.errata(0, 5), 2);
    }

    private static void promise28() {
        CHECK.about("promise 28: right");
        MinuteBook x = told(CORRIDOR);
        trayRefusals("right", tray -> x.right(tray, -1, 0), x, 12);
        Check.lay(x, 0, 10, 1, 0, 11);
        row("right(0, 1, i)", i -> x.right(0, 1, i), 11, 11, 0, 11);
        row("right(0, 0, i)", i -> x.right(0, 0, i), 11, 11, 11, 11);
        row("no such row", i -> x.right(0, 2, i));
        due("right(0, 10, 0)", x.right(0, 10, 0), -3);
        Check.lay(x, 0, 0, 0, 0, 0, 0, 11, 11, 11);
        row("of like ones the first", i -> x.right(0, 5, i), 0, 0, 0, 0, 11, 11, 11, 0);
    }

    private static void promise29() {
        CHECK.about("promise 29: back");
        MinuteBook x = told(CORRIDOR);
        trayRefusals("back", tray -> x.back(tray, -1), x, 12);
        Check.lay(x, 0, 11, 11, 11);
        due("all stay", x.back(0, 0), 3);
        due("no such row", x.back(0, 1), -1);
        due("back(0, 10)", x.back(0, 10), -3);
        Check.lay(x, 0, 11, 0, 0, 11);
        due("two stay", x.back(0, 1), 2);
        due("one stays", x.back(0, 0), 1);
        Check.lay(x, 0, 10, 11, 11, 11);
        due("none stays", x.back(0, 1), 0);
        Check.lay(x, 0, 11, 11, 11, 1);
        due("the last one baulks", x.back(0, 1), 3);
    }

    private static void promise30() {
        CHECK.about("promise 30: lost");
        MinuteBook x = told(CORRIDOR);
        trayRefusals("lost", x::lost, x, 10);
        Check.lay(x, 0, -1, -1, -1, -1);
        due("all lost", x.lost(0), 5);
        Check.lay(x, 0, -1, 0, -1, -1);
        due("one told", x.lost(0), 1);
        Check.lay(x, 0, 0, 0, -1, -1);
        due("no rows", x.lost(0), 0);
        Check.lay(x, 0, 10, -1, -1, -1);
        due("somebody baulks", x.lost(0), 0);
        Check.lay(x, 0, 11, 11, 11);
        due("none lost", x.lost(0), 1);
        MinuteBook y = told("book tone 0 heat 0;" + "member;".repeat(6) + "saying;".repeat(8));
        Check.lay(y, 0, -1, -1, -1, -1, -1, -1, -1, -1, -1, -1);
        due("48 to the 10th", y.lost(0), 64925062108545024L);
    }

    private static void promise31() {
        CHECK.about("promise 31: sureMinute");
        MinuteBook x = told(CORRIDOR);
        trayRefusals("sureMinute", tray -> x.sureMinute(tray, 0), x, 10);
        Check.lay(x, 0, -1, 99);
        due("-3 ahead of -7", x.sureMinute(0, 2), -3);
        Check.lay(x, 0, -1, 0, -1, -1);
        due("place 0", x.sureMinute(0, 0), 11);
        due("place 1", x.sureMinute(0, 1), 0);
        due("place 3", x.sureMinute(0, 3), 11);
        due("place 4", x.sureMinute(0, 4), -7);
        due("place -1", x.sureMinute(0, -1), -7);
        Check.lay(x, 0, -1, -1, -1, -1);
        due("either", x.sureMinute(0, 0), -1);
        Check.lay(x, 0, 0, 0, -1, -1);
        due("no rows", x.sureMinute(0, 0), -1);
        due("no rows, no such place", x.sureMinute(0, 4), -7);
    }

    private static void promise32() {
        CHECK.about("promise 32: speakers");
        MinuteBook x = told(CORRIDOR);
        trayRefusals("speakers", tray -> x.speakers(tray, 0), x, 10);
        Check.lay(x, 0, -1, 0, -1, -1);
        due("place 0", x.speakers(0, 0), 2);
        due("place 1", x.speakers(0, 1), 1);
        due("place 4", x.speakers(0, 4), -7);
        due("place -1", x.speakers(0, -1), -7);
        Check.lay(x, 0, -1, -1, -1, -1);
        due("either", x.speakers(0, 3), 3);
        Check.lay(x, 0, 0, 0, -1, -1);
        due("no rows", x.speakers(0, 2), 0);
    }

    private static void promise33() {
        CHECK.about("promise 33: kept");
        MinuteBook x = told(CORRIDOR);
        trayRefusals("kept", tray -> x.kept(tray, 0), x, 12);
        Check.lay(x, 0, 11, 0, 0, 11);
        due("mark above 2", x.kept(0, 1), 0b1111111000);
        due("any mark", x.kept(0, 0), 1023);
        due("no such member", x.kept(0, 2), -2);
        due("no such member", x.kept(0, -1), -2);
        due("no such member, missing", x.kept(3, 2), -2);
        x.mark(1, 0);
        due("whatever it is now", x.kept(0, 1), 0b1111111000);
        Check.lay(x, 0, 1, 1, 11);
        due("whoever else would baulk", x.kept(0, 1), 0b1111111110);
        due("it baulks by every mark", x.kept(0, 0), 0);
        MinuteBook y = told(START + "member;member;saying;would : not last = who;");
        Check.lay(y, 0, 0, 10, 0);
        due("last goes as told", y.kept(0, 0), 1023);
        Check.lay(y, 0, 0, 0);
        due("last is itself", y.kept(0, 0), 0);
    }

    private static void promise34() {
        CHECK.about("promise 34: attempt");
        MinuteBook x = told("book tone 4 heat 5;member mark 2;member mark 7;saying up 3;saying cool 4;saying;saying;"
            + "would : mark + saying < tone + who * 5;");
        Check.lay(x, 0, 0, 11);
        due("marks 0 to 3", x.kept(0, 0), 15);
        due("2 of 4 by saying 2", x.attempt(0, 0), 2);
        due("no such member", x.attempt(0, 2), -2);
        due("the first of like ones", x.attempt(0, 1), 3);
        MinuteBook y = told(CORRIDOR);
        trayRefusals("attempt", tray -> y.attempt(tray, 0), y, 12);
        Check.lay(y, 0, 1);
        due("no such marks", y.attempt(0, 0), -1);
        Check.lay(y, 0, 0);
        due("none tells them apart: the first", y.attempt(0, 0), 0);
        due("member 1 by saying 1", y.attempt(0, 1), 1);
    }

    private static void promise35() {
        CHECK.about("promise 35: forces");
        MinuteBook x = told(CORRIDOR);
        due("any tone: up can't hinder it", x.forces(-1), 5);
        due("tone 0: up hinders it", x.forces(0), -1);
        due("forces(10)", x.forces(10), -3);
        due("forces(-2)", x.forces(-2), -3);
        MinuteBook y = told("book tone 4 heat 0;member;saying up 1;saying down 1;");
        due("now", y.forces(4), 0);
        due("by the first one", y.forces(5), 1);
        due("the other one turns back", y.forces(6), -1);
        due("the other one has to", told("book tone 4 heat 0;member;saying up 1;").forces(6), 2);
        due("it ends", told("book tone 4 heat 1;member;saying up 1;would : tone < 5;closes : tone = 6;").forces(-1), -1);
        due("it ends at once", told("book tone 4 heat 1;").forces(-1), -1);
        due("the other one has no minute", told("book tone 2 heat 1;member;saying up 1;saying up 2;saying up 3;would : "
            + "tone = 2 and [saying = 0 or saying = 2] or tone = 3 and saying < 2 or tone = 4 and saying = 1;closes : tone = 6;").forces(-1), -1);
        x.mark(1, 0);
        due("by another mark", x.forces(-1), -1);
        x.mark(1, 9);
        due("by a third mark", x.forces(-1), 5);
        x.say(1, 1);
        due("behind a minute", x.forces(-1), 3);
    }

    private static void promise36() {
        CHECK.about("promise 36: best");
        MinuteBook x = told(CORRIDOR);
        due("best(-1)", x.best(-1), 11);
        due("it doesn't", x.best(0), -1);
        due("best(10)", x.best(10), -3);
        MinuteBook y = told("book tone 4 heat 0;member;member;saying up 1;saying down 1;");
        due("it is one now", y.best(4), -1);
        due("best(5)", y.best(5), 0);
        due("best(3)", y.best(3), 1);
        due("best(6)", y.best(6), -1);
    }

    private static void promise37() {
        CHECK.about("promise 37: power");
        due("three tones", told("book tone 4 heat 0;member;saying up 1;saying down 1;").power(), 0b111000);
        due("upwards", told("book tone 6 heat 0;member;saying up 1;").power(), 0b1111000000);
        due("none", told("book tone 6 heat 1;member;saying up 1;").power(), 0);
    }

    private static void promise38() {
        CHECK.about("promise 38: stroke");
        long[] above = {1, 9, 4, 7, 3, 1, 2, 3, 1, 1, 0};
        long[] below = {1, 10, 5, 10, 5, 2, 5, 10, 5, 10, 1};
        for (int told = 0; told <= 10; told++) {
            MinuteBook x = told("book tone 0 heat 3;member;saying cool 1;stroke " + told + ";");
            due("above by " + told, x.stroke(-1, 0), above[told] * above[told]);
            due("below by " + told, x.stroke(0, 1), below[told] * below[told]);
            x.say(0, 0);
            x.say(0, 0);
            due("one minute by " + told, x.stroke(0, 0), 1);
            due("one minute by " + told, x.stroke(0, 1), 1);
            x.say(0, 0);
            due("no minute by " + told, x.stroke(0, 0), 1);
            due("no minute by " + told, x.stroke(0, 1), 1);
        }
        due("no stroke told", told("book tone 0 heat 9;member;saying cool 1;").stroke(0, 1), 1);
        MinuteBook y = told("book tone 0 heat 9;member;saying cool 1;saying up 1;stroke 1;");
        due("16 minutes", y.shortest(7), 16);
        due("9 to the 15th", y.stroke(7, 0), 205891132094649L);
        due("10 to the 15th", y.stroke(7, 1), 1000000000000000L);
        due("17 minutes", y.stroke(8, 0), -4);
        due("no such what", y.stroke(8, 2), -2);
        due("no such what", y.stroke(10, -1), -2);
        due("no such tone", y.stroke(10, 0), -3);
        y.say(0, 1);
        due("there are none", y.stroke(0, 0), -1);
        due("there are none", y.stroke(0, 1), -1);
    }

    private static void promise39() {
        CHECK.about("promise 39: likeliest");
        String stairs = "book tone 3 heat 1;member;saying up 1 cool 1;saying down 1;";
        due("one minute to 4", told(stairs + "stroke 5;").likeliest(), 4);
        due("no stroke: the first tone", told(stairs).likeliest(), 0);
        due("certain: the first of none", told("book tone 3 heat 2;member;saying up 1 cool 1;saying down 1;stroke 10;").likeliest(), 0);
        due("certain: the one with one minute", told(stairs + "stroke 10;").likeliest(), 4);
        due("none and one are alike", told("book tone 3 heat 0;member;saying down 1;stroke 9;").likeliest(), 2);
        due("there is none", told("book tone 3 heat 1;member;saying up 1;").likeliest(), -1);
        due("tone 9", told("book tone 8 heat 1;member;saying up 1 cool 1;").likeliest(), 9);
        due("above 16 minutes, too",
            told("book tone 0 heat 9;member;saying cool 1;saying up 1;closes : heat = 0 and tone > 7;stroke 1;").likeliest(), 8);
    }

    private static void promise40() {
        CHECK.about("promise 40: numbers");
        MinuteBook x = told(PLAIN);
        due("numbers(0, 0, 40)", x.numbers(0, 0, 40), 0);
        due("write(0, 39, 1)", x.write(0, 39, 1), 1);
        due("numbers(0, 0, 41)", x.numbers(0, 0, 41), -3);
        due("numbers(0, 0, -1)", x.numbers(0, 0, -1), -3);
        due("the tray stays", x.write(0, 39, 2), 2);
        due("numbers(4, 0, 0)", x.numbers(4, 0, 0), -2);
        due("numbers(-1, 0, 0)", x.numbers(-1, 0, 0), -2);
        due("numbers(0, 4, 0)", x.numbers(0, 4, 0), -2);
        due("numbers(0, -1, 41)", x.numbers(0, -1, 41), -2);
        due("numbers(0, 3, 2)", x.numbers(0, 3, 2), 0);
        due("of the new sort", x.write(0, 0, Long.MIN_VALUE), Long.MIN_VALUE);
        due("of the new size", x.write(0, 2, 1), -7);
        Check.lay(x, 1, 2, 2);
        due("numbers(1, 2, 3)", x.numbers(1, 2, 3), 0);
        due("all 0", x.judge(1, 2), 82);
        due("numbers(3, 3, 0)", x.numbers(3, 3, 0), 0);
        due("not missing", x.perform(3), 0);
    }

    private static void promise41() {
        CHECK.about("promise 41: write");
        MinuteBook x = told(PLAIN);
        due("missing", x.write(0, 0, 1), -6);
        due("no such tray", x.write(4, 0, 1), -2);
        due("no such tray", x.write(-1, 0, 1), -2);
        long v = 0x123456789abcdef0L;
        long[] cut = {(byte) v, (short) v, (int) v, v};
        long[] high = {-128, -32768, Integer.MIN_VALUE, Long.MIN_VALUE};
        for (int sort = 0; sort < 4; sort++) {
            x.numbers(sort, sort, 2);
            due("cut to sort " + sort, x.write(sort, 0, v), cut[sort]);
            due("the highest bit of sort " + sort, x.write(sort, 1, 1L << (8 << sort) - 1), high[sort]);
            due("-1 in sort " + sort, x.write(sort, 1, -1), -1);
            due("no such number", x.write(sort, 2, 1), -7);
            due("no such number", x.write(sort, -1, 1), -7);
        }
        x.numbers(0, 0, 1);
        x.write(0, 0, 256 + 12);
        due("what it is there", x.perform(0), 1);
        due("by member 1", x.count(2), 1);
    }

    private static void promise42() {
        CHECK.about("promise 42: lists");
        MinuteBook x = told(CORRIDOR);
        due("no such tray", x.lists(4, 10), -2);
        due("missing", x.lists(0, 10), -6);
        x.numbers(0, 0, 6);
        due("no such tone", x.lists(0, 10), -3);
        for (int i = 0; i < 6; i++) {
            x.write(0, i, 7);
        }
        due("four of six places", x.lists(0, 1), 4);
        due("what came: all can be up to place 4", x.judge(0, 0), 4);
        due("the rest stays", x.judge(0, 1), 1);
        due("it is at the end then", x.judge(0, 3), 1);
        due("as far as it has places", x.lists(0, 5), 6);
        due("six of eight", x.judge(0, 2), 41);
        x.numbers(0, 0, 0);
        due("no places", x.lists(0, 1), 0);
        x.numbers(0, 3, 3);
        x.write(0, 0, 7);
        x.mark(1, 0);
        due("there are none", x.lists(0, 1), -5);
        due("the tray stays", x.judge(0, 1), 1);
        MinuteBook y = told("book tone 3 heat 0;");
        y.numbers(0, 0, 2);
        due("one now: no minutes come", y.lists(0, 3), 0);
    }

    private static void promise43And44() {
        CHECK.about("promises 43, 44: image, restore");
        MinuteBook x = told(PLAIN);
        due("image(2)", x.image(2), -2);
        due("image(-1)", x.image(-1), -2);
        due("restore(2)", x.restore(2), -2);
        due("restore(-1)", x.restore(-1), -2);
        due("restore(0), none made", x.restore(0), -5);
        x.say(1, 2);
        x.mark(1, 6);
        due("image(0)", x.image(0), 0);
        due("restore(1), none made", x.restore(1), -5);
        due("calls to undo stay", x.count(7), 2);
        Check.read(x, CORRIDOR);
        due("image(1)", x.image(1), 0);
        x.say(0, 0);
        Check.lay(x, 0, 11);
        Check.read(x, "?");
        Check.feed(x, START);
        due("restore(0)", x.restore(0), 0);
        long[] counts = {3, 3, 1, 2, 3, 1, 9, 0, 20, 7};
        for (int what = 0; what < counts.length; what++) {
            due("count(" + what + ")", x.count(what), counts[what]);
        }
        due("nothing can be undone", x.undo(1), -3);
        due("the fault stays", x.fault(0), 1);
        due("the trays stay", x.baulk(0), -1);
        due("turn of tone", x.saying(2, 0), -2);
        due("stroke", x.stroke(0, 1), 1000000);
        due("adjourn()", x.adjourn(), 1);
        due("tone at first", x.count(0), 5);
        x.mark(0, 9);
        due("restore(1)", x.restore(1), 0);
        due("the other law", x.open(), 2);
        due("shortest(9)", x.shortest(9), 12);
        due("restore(0) again", x.restore(0), 0);
        due("marks", x.count(6), 9);
        due("image(1) anew", x.image(1), 0);
        Check.read(x, START);
        due("restore(1)", x.restore(1), 0);
        due("members", x.count(3), 2);
        MinuteBook y = new MinuteBook();
        y.image(0);
        Check.read(y, PLAIN);
        due("of a new object", y.restore(0), 0);
        due("no members", y.count(3), 0);
        due("no lines", y.count(9), 0);
    }

    private static void promise45() {
        CHECK.about("promise 45: count");
        MinuteBook x = told(PLAIN);
        x.say(0, 2);
        x.mark(1, 9);
        x.say(1, 2);
        x.feed(0, 0, 0, 0, 0);
        long[] counts = {1, 4, 1, 2, 3, 2, 12, 3, 20, 7};
        for (int what = 0; what < counts.length; what++) {
            due("count(" + what + ")", x.count(what), counts[what]);
        }
        due("count(10)", x.count(10), -1);
        due("count(-1)", x.count(-1), -1);
        due("count(least)", x.count(LEAST), -1);
        due("count(most)", x.count(MOST), -1);
        due("NONE", MinuteBook.NONE, -1);
    }
}
