/** Edges of texts: how long they are, their lines, tokens and faults; promises 1 to 4. */
final class TextEdges {
    /** 19 bytes. */
    private static final String START = "book tone 1 heat 1;";
    private static final String SIGNS = ";:+-*()[]=<>";

    private final Edges edges;

    TextEdges(Edges edges) {
        this.edges = edges;
    }

    void run() {
        edges.terms();
        atMost900Bytes();
        withoutOne();
        firstLine();
        lines();
        toneAndHeatAtFirst();
        marks();
        turns();
        laterTurnsStrike();
        strokes();
        laterOnesStrike();
        blanks();
        words();
        theFirstFault();
        faultOne();
        faultTwo();
        faultThree();
        faultFour();
        promise1();
        promise2();
        promise3();
        promise4();
    }

    private void fault(String text, int kind, int place) {
        MinuteBook x = new MinuteBook();
        edges.due(text, Check.read(x, text), -30 - kind);
        edges.due(text + " fault(0)", x.fault(0), kind);
        edges.due(text + " fault(1)", x.fault(1), place);
        edges.due(text + " lines", x.count(9), 0);
    }

    private MinuteBook right(String text, int lines) {
        MinuteBook x = new MinuteBook();
        edges.due(text, Check.read(x, text), lines);
        edges.due(text + " fault(0)", x.fault(0), 0);
        edges.due(text + " fault(1)", x.fault(1), -1);
        edges.due(text + " lines", x.count(9), lines);
        return x;
    }

    private void atMost900Bytes() {
        edges.says("THE BOOK is a TEXT of at most 900 bytes");
        String text = START + "stroke 10;".repeat(87) + "stroke  10;";
        edges.due("bytes", text.length(), 900);
        right(text, 89);
        fault(text.substring(0, 899), 2, 899);
        fault(text.substring(0, 899) + ",", 1, 899);
        fault(text.substring(0, 899) + "=", 2, 899);
        for (char sign : SIGNS.toCharArray()) {
            fault(String.valueOf(sign).repeat(900), 2, 0);
            fault(START + String.valueOf(sign).repeat(881), 2, 19);
        }
        fault("m".repeat(900), 2, 0);
        fault("1".repeat(900), 1, 0);
        MinuteBook x = new MinuteBook();
        Check.feed(x, text);
        edges.due("20 bytes more", x.feed(0x20202020, 0x20202020, 0x20202020, 0x20202020, 0x20202020), -5);
        edges.due("the text is read as it was", x.book(900), 89);
    }

    private void withoutOne() {
        edges.says("(without one: TONE 0, HEAT 0, no MEMBERS, no SAYINGS):");
        MinuteBook x = new MinuteBook();
        edges.due("tone", x.count(0), 0);
        edges.due("heat", x.count(1), 0);
        edges.due("members", x.count(3), 0);
        edges.due("sayings", x.count(4), 0);
        edges.due("say(0, 0)", x.say(0, 0), -11);
        edges.due("adjourn()", x.adjourn(), 0);
        edges.due("tone, adjourned", x.count(0), 0);
        edges.due("heat, adjourned", x.count(1), 0);
    }

    /** Leaves out each token of a row of them: the next one can't stand there. */
    private void leftOut(String before, String... tokens) {
        for (int left = 0; left < tokens.length; left++) {
            StringBuilder text = new StringBuilder(before);
            int place = 0;
            for (int i = 0; i < tokens.length; i++) {
                if (i == left) {
                    place = text.length();
                } else {
                    text.append(tokens[i]).append(i < tokens.length - 1 ? " " : "");
                }
            }
            fault(text.toString(), 2, place);
        }
    }

    private void firstLine() {
        edges.says("book tone N heat N ; { LINE ; }");
        leftOut("", "book", "tone", "1", "heat", "2", ";");
        right("book tone 1 heat 2 ;", 1);
        fault("book heat 2 tone 1;", 2, 5);
        fault("book tone 1 heat 2 heat 2;", 2, 19);
        fault("book tone 1 heat 2;;", 2, 19);
        fault("book tone 1 heat 2;member", 2, 25);
        right("book tone 1 heat 2;member;", 2);
        fault("book tone 1 heat 2;member;member", 2, 32);
    }

    private void lines() {
        edges.says("LINE: member { FLAG } | saying { TURN } | would : TRUTH | closes : TRUTH | stroke N.");
        for (String line : new String[] {"member", "saying", "would : 1 = 1", "closes : 1 = 1", "stroke 1"}) {
            right(START + line + ";", 2);
            fault(START + line + line + ";", 2, line.startsWith("m") || line.startsWith("sa") ? 19 : 19 + line.length());
            fault(START + line, 2, 19 + line.length());
        }
        for (String word : new String[] {"tone", "heat", "mark", "up", "or", "and", "not", "last", "who", "members", "say"}) {
            fault(START + word + ";", 2, 19);
        }
        leftOut(START, "would", ":", "1", "=", "1", ";");
        leftOut(START, "closes", ":", "1", "=", "1", ";");
        leftOut(START, "stroke", "1", ";");
        edges.says("FLAG: mark N.");
        leftOut(START + "member ", "mark", "1", ";");
        edges.due("102 flags", right(START + "member" + " mark 7".repeat(101) + " mark 3;", 2).member(0, 0), 3);
        fault(START + "member up 1;", 2, 26);
        edges.says("TURN: up N | down N | warm N | cool N.");
        for (String turn : new String[] {"up", "down", "warm", "cool"}) {
            leftOut(START + "saying ", turn, "1", ";");
            right(START + "saying " + turn + " 1 " + turn + " 2;", 2);
        }
        fault(START + "saying mark 1;", 2, 26);
        edges.due("146 turns", right(START + "saying" + " up 1".repeat(145) + " warm 3;", 2).saying(0, 1), 3);
    }

    private void toneAndHeatAtFirst() {
        edges.says("book: TONE and HEAT at first, 0 to 9 each.");
        for (int n = 0; n <= 9; n++) {
            MinuteBook x = right("book tone " + n + " heat " + (9 - n) + ";", 1);
            edges.due("tone", x.count(0), n);
            edges.due("heat", x.count(1), 9 - n);
        }
        for (int n : new int[] {10, 11, 99, 100, 999}) {
            fault("book tone " + n + " heat 1;", 3, 10);
            fault("book tone 9 heat " + n + ";", 3, 17);
        }
        fault("book tone 010 heat 1;", 3, 10);
        edges.due("009", right("book tone 009 heat 09;", 1).count(0), 9);
    }

    private void marks() {
        edges.says("member: mark: its MARK, 0 to 9 (0); numbered from 0 on, 6 at most.");
        for (int n = 0; n <= 9; n++) {
            edges.due("mark " + n, right(START + "member mark " + n + ";", 2).member(0, 0), n);
        }
        fault(START + "member mark 10;", 3, 31);
        fault(START + "member mark 999;", 3, 31);
        MinuteBook x = right(START + "member;member mark 8;member mark 7;member mark 6;member mark 5;member mark 4;", 7);
        int[] marks = {0, 8, 7, 6, 5, 4};
        for (int m = 0; m < 6; m++) {
            edges.due("member(" + m + ", 0)", x.member(m, 0), marks[m]);
        }
        edges.due("member(6, 0)", x.member(6, 0), -2);
        edges.due("members", x.count(3), 6);
        fault(START + "member;".repeat(7), 4, 61);
    }

    private void turns() {
        edges.says("saying: by how much TONE goes up or down, HEAT is warmer or cooler, 0 to 9 (0); numbered from 0 on, 8 at most;");
        String[] turns = {"up", "down", "warm", "cool"};
        for (int i = 0; i < 4; i++) {
            for (int n = 0; n <= 9; n++) {
                MinuteBook x = right(START + "saying " + turns[i] + " " + n + ";", 2);
                int turned = i % 2 == 0 ? n : -n;
                edges.due(turns[i] + " " + n + " of tone", x.saying(0, 0), i < 2 ? turned : 0);
                edges.due(turns[i] + " " + n + " of heat", x.saying(0, 1), i < 2 ? 0 : turned);
            }
            int place = 27 + turns[i].length();
            fault(START + "saying " + turns[i] + " 10;", 3, place);
            fault(START + "saying " + turns[i] + " 999;", 3, place);
        }
        MinuteBook x = right(START + "saying;saying up 1;saying up 2;saying up 3;saying up 4;saying up 5;saying up 6;saying up 7;", 9);
        for (int s = 0; s < 8; s++) {
            edges.due("saying(" + s + ", 0)", x.saying(s, 0), s);
        }
        edges.due("saying(8, 0)", x.saying(8, 0), -99000002);
        edges.due("sayings", x.count(4), 8);
        fault(START + "saying;".repeat(9), 4, 75);
    }

    private void laterTurnsStrike() {
        edges.says("later ones of up and down strike, of warm and cool likewise.");
        String[] texts = {"up 3 down 2", "down 3 up 2", "up 3 up 2", "down 3 down 2", "up 3 down 0", "up 3 warm 5"};
        int[] tone = {-2, 2, 2, -2, 0, 3};
        int[] heat = {0, 0, 0, 0, 0, 5};
        for (int i = 0; i < texts.length; i++) {
            MinuteBook x = right(START + "saying " + texts[i] + ";", 2);
            edges.due(texts[i] + ": tone", x.saying(0, 0), tone[i]);
            edges.due(texts[i] + ": heat", x.saying(0, 1), heat[i]);
        }
        texts = new String[] {"warm 3 cool 2", "cool 3 warm 2", "warm 3 warm 2", "cool 3 cool 2", "cool 3 warm 0", "cool 3 down 5"};
        tone = new int[] {0, 0, 0, 0, 0, -5};
        heat = new int[] {-2, 2, 2, -2, 0, -3};
        for (int i = 0; i < texts.length; i++) {
            MinuteBook x = right(START + "saying " + texts[i] + ";", 2);
            edges.due(texts[i] + ": tone", x.saying(0, 0), tone[i]);
            edges.due(texts[i] + ": heat", x.saying(0, 1), heat[i]);
        }
    }

    private void strokes() {
        edges.says("stroke: how likely, in 10, 0 to 10, after a line (0).");
        String two = "book tone 0 heat 2;member;saying cool 1;";
        int[] above = {1, 9, 4, 7, 3, 1, 2, 3, 1, 1, 0};
        int[] below = {1, 10, 5, 10, 5, 2, 5, 10, 5, 10, 1};
        for (int n = 0; n <= 10; n++) {
            MinuteBook x = right(two + "stroke " + n + ";", 4);
            edges.due("above by " + n, x.stroke(0, 0), above[n]);
            edges.due("below by " + n, x.stroke(0, 1), below[n]);
        }
        edges.due("none told, above", right(two, 3).stroke(0, 0), 1);
        edges.due("none told, below", right(two, 3).stroke(0, 1), 1);
        fault(START + "stroke 11;", 3, 26);
        fault(START + "stroke 100;", 3, 26);
    }

    private void laterOnesStrike() {
        edges.says("Later ones of a mark, of would, closes, stroke strike.");
        edges.due("mark", right(START + "member mark 9 mark 8;", 2).member(0, 0), 8);
        edges.due("mark 0", right(START + "member mark 9 mark 0;", 2).member(0, 0), 0);
        edges.due("of its own member", right(START + "member mark 9;member mark 8;", 3).member(0, 0), 9);
        String one = START + "member;saying;";
        edges.due("would", right(one + "would : 1 = 2;would : 1 = 1;", 5).open(), 1);
        edges.due("would, the other way", right(one + "would : 1 = 1;would : 1 = 2;", 5).open(), 0);
        edges.due("would, closes between", right(one + "would : 1 = 1;closes : 1 = 1;would : 1 = 2;", 6).open(), 0);
        edges.due("closes", right(one + "closes : 1 = 2;closes : 1 = 1;", 5).closed(), 1);
        edges.due("closes, the other way", right(one + "closes : 1 = 1;closes : 1 = 2;", 5).closed(), 0);
        edges.due("closes, would between", right(one + "closes : 1 = 1;would : 1 = 1;closes : 1 = 2;", 6).closed(), 0);
        String two = "book tone 0 heat 2;member;saying cool 1;";
        edges.due("stroke", right(two + "stroke 1;stroke 3;", 5).stroke(0, 0), 7);
        edges.due("stroke 0", right(two + "stroke 3;stroke 0;", 5).stroke(0, 0), 1);
    }

    private static boolean isSmallLetter(int b) {
        return b >= 97 && b <= 122;
    }

    private static boolean isDigit(int b) {
        return b >= 48 && b <= 57;
    }

    private static boolean isBlank(int b) {
        return b == 10 || b == 32;
    }

    private void blanks() {
        edges.says("TOKENS, as long as they go on, between them blanks (10, 32):");
        for (int b = 0; b < 256; b++) {
            String text = "book" + (char) b + "tone 1 heat 1;";
            if (isBlank(b)) {
                right(text, 1);
            } else if (isSmallLetter(b)) {
                fault(text, 2, 0);
            } else {
                fault(text, isDigit(b) || SIGNS.indexOf(b) >= 0 ? 2 : 1, 4);
            }
        }
        right("\n \n book \n\n tone \n 1heat\n1\n;\n", 1);
        right("book tone1heat1;member;", 2);
        fault("book toneheat 1;", 2, 5);
        fault("booktone 1 heat 1;", 2, 0);
        fault("book to ne 1 heat 1;", 2, 5);
        fault("book tone 1 1 heat 1;", 2, 12);
        edges.due("12 is one N", Check.told(START + "closes : 12=6+6;").closed(), 1);
        fault(START + "closes : 1 2 = 12;", 2, 30);
    }

    private void words() {
        edges.says("words (small letters), N (1 to 3 digits), the signs ; : + - * ( ) [ ] = < >.");
        for (int b = 0; b < 256; b++) {
            String text = START + (char) b + "ember;";
            boolean begins = isSmallLetter(b) || isDigit(b) || SIGNS.indexOf(b) >= 0;
            if (b == 'm') {
                right(text, 2);
            } else {
                fault(text, begins || isBlank(b) ? 2 : 1, isBlank(b) ? 20 : 19);
            }
        }
        fault(START + "memBer;", 2, 19);
        fault("boo" + (char) ('k' + 128) + " tone 1 heat 1;", 2, 0);
        fault((char) ('b' + 128) + "ook tone 1 heat 1;", 1, 0);
        right("book tone 1 heat 001;", 1);
        fault("book tone 1 heat 0001;", 1, 17);
        edges.due("three digits", Check.told(START + "closes : 999 > 998 and 999 - 1 = 998;").closed(), 1);
        fault(START + "closes : 9999 > 998;", 1, 28);
        right(START + "would:1+1-1*(1)=1 or[1<1]or 1>1;closes:1=1;", 3);
    }

    private void theFirstFault() {
        edges.says("FAULTS, the first along the text, of one TOKEN the least kind:");
        fault("book tone 10 heat 10;", 3, 10);
        fault("book tone 10 heat ?;", 3, 10);
        fault("book tone ? heat 10;", 1, 10);
        fault("book tone heat ?;", 2, 10);
        fault("book ? heat 1;", 1, 5);
        fault(START + "member;".repeat(6) + "stroke 11;member;", 3, 68);
        fault(START + "member;".repeat(7) + "stroke 11;", 4, 61);
        // Of one token: 1 ahead of 2 and 3, 2 ahead of 3 and 4.
        fault(START + "member 1000;", 1, 26);
        fault(START + "stroke 1000;", 1, 26);
        fault(START + "member 999;", 2, 26);
        fault(START + "member;".repeat(6) + "stroke member;", 2, 68);
        fault(START + "member;".repeat(5) + "member member;", 2, 61);
        fault(START + "saying;".repeat(8) + "closes : 1 saying;", 2, 86);
        fault(START + "closes : ((((((1 ( ", 2, 36);
        fault(START + "closes : not not not not not not 1 not", 2, 54);
        fault(START + "closes : ((((((not 1", 2, 34);
        fault(START + "closes : (((((([1", 2, 34);
    }

    private void faultOne() {
        edges.says("1 no TOKEN begins so (4 digits and more: at their first).");
        for (int b : new int[] {0, 1, 9, 11, 13, 31, 33, 34, 39, 44, 46, 47, 63, 64, 65, 90, 92, 94, 96, 123, 127, 128, 160, 255}) {
            fault(START + (char) b, 1, 19);
            fault("" + (char) b, 1, 0);
            fault(START + "member" + (char) b + ";", 1, 25);
        }
        for (int digits = 4; digits <= 40; digits += 6) {
            fault("book tone " + "1".repeat(digits) + " heat 1;", 1, 10);
            fault("book tone " + "0".repeat(digits) + " heat 1;", 1, 10);
            fault(START + "closes : 1 = " + "9".repeat(digits), 1, 32);
        }
        right(START + "closes : 1 = 999;", 2);
        right(START + "closes : 1 = 000;", 2);
    }

    private void faultTwo() {
        edges.says("2 it can't stand there (the end: the text's length; book must be told first, and once; a word of the other law).");
        fault("", 2, 0);
        fault(" ", 2, 1);
        fault(" ".repeat(900), 2, 900);
        String[] tokens = "book tone 1 heat 1 ; member mark 1 ; saying up 1 ; would : not [ ( 1 ) + 2 > 1 ] and 1 = 1 ; stroke 1 ;".split(" ");
        StringBuilder text = new StringBuilder();
        int lines = 0;
        for (String token : tokens) {
            text.append(token);
            lines += token.equals(";") ? 1 : 0;
            for (String end : new String[] {"", " ", "\n \n"}) {
                if (token.equals(";")) {
                    right(text + end, lines);
                } else {
                    fault(text + end, 2, text.length() + end.length());
                }
            }
            text.append(' ');
        }
        fault("member;" + START, 2, 0);
        fault("stroke 1;" + START, 2, 0);
        fault(";" + START, 2, 0);
        fault(START + START, 2, 19);
        fault(START + "member;book;", 2, 26);
        fault(START + "member book tone 1 heat 1;", 2, 26);
        for (String word : new String[] {"who", "mark", "saying"}) {
            right(START + "would : " + word + " = " + word + ";", 2);
            fault(START + "closes : " + word + " = 1;", 2, 28);
            fault(START + "closes : 1 = " + word + ";", 2, 32);
            fault(START + "would : 1 = 1;closes : (" + word + ") = 1;", 2, 43);
            right(START + "closes : 1 = 1;would : (" + word + ") = 1;", 3);
        }
        for (String word : new String[] {"tone", "heat", "last"}) {
            right(START + "would : " + word + " = 1;closes : " + word + " = 1;", 3);
        }
        for (String word : new String[] {"book", "member", "up", "down", "warm", "cool", "would", "closes", "stroke", "tea"}) {
            fault(START + "would : " + word + " = 1;", 2, 27);
            fault(START + "closes : " + word + " = 1;", 2, 28);
        }
    }

    private void faultThree() {
        edges.says("3 an N out of its bounds.");
        String[] before = {"book tone ", "book tone 1 heat ", START + "member mark ", START + "saying up ", START + "saying down ",
            START + "saying warm ", START + "saying cool ", START + "stroke "};
        String[] behind = {" heat 1;", ";", ";", ";", ";", ";", ";", ";"};
        for (int i = 0; i < before.length; i++) {
            int most = i == 7 ? 10 : 9;
            right(before[i] + "0" + behind[i], i < 2 ? 1 : 2);
            right(before[i] + most + behind[i], i < 2 ? 1 : 2);
            fault(before[i] + (most + 1) + behind[i], 3, before[i].length());
            fault(before[i] + "999" + behind[i], 3, before[i].length());
            fault(before[i] + (most + 1), 3, before[i].length());
        }
        right(START + "closes : 0 = 999;", 2);
    }

    private void faultFour() {
        edges.says("4 the first TOKEN of a 7th member, a 9th saying; a seventh of not [ (.");
        String six = START + "member;".repeat(6);
        right(six, 7);
        fault(six + "member;", 4, 61);
        fault(six + "member mark 10;", 4, 61);
        fault(six + "member", 4, 61);
        fault(six + "stroke 1; member ?", 4, 71);
        String eight = START + "saying;".repeat(8);
        right(eight, 9);
        right(six + "saying;".repeat(8), 15);
        fault(eight + "saying;", 4, 75);
        fault(eight + "saying up 10;", 4, 75);
        fault(eight + "saying", 4, 75);
        right(START + "would : not[not[((1))=1]];", 2);
        fault(START + "would : not[not[(((1)))=1]];", 4, 37);
        fault(START + "would : not[not[not[not 1=1]]];", 4, 39);
    }

    private void promise1() {
        edges.promise(1);
        edges.says("TONE 0, HEAT 0, no MEMBERS, no SAYINGS.");
        MinuteBook x = new MinuteBook();
        int[] counts = {0, 0, -1, 0, 0, 0, 0, 0, 0, 0};
        for (int what = 0; what < 10; what++) {
            edges.due("count(" + what + ")", x.count(what), counts[what]);
        }
        edges.due("member(0, 0)", x.member(0, 0), -2);
        edges.due("saying(0, 0)", x.saying(0, 0), -99000002);
    }

    private void promise2() {
        edges.promise(2);
        edges.says("Twenty bytes come behind those on THE TAPE, the highest of each int first: how many it has.");
        MinuteBook x = new MinuteBook();
        for (int i = 1; i <= 45; i++) {
            edges.due("feed, time " + i, x.feed(0x626f6f6b, 0x20746f6e, 0x65203720, 0x68656174, 0x20383b20), 20 * i);
            edges.due("count(8)", x.count(8), 20 * i);
        }
        edges.due("the second book", x.book(900), -32);
        edges.due("begins at byte 20", x.fault(1), 20);
        edges.due("again", x.feed(0x626f6f6b, 0x20746f6e, 0x65203720, 0x68656174, 0x20383bff), 20);
        edges.due("the last byte", x.book(20), -31);
        edges.due("its place", x.fault(1), 19);
        x.feed(0x626f6f6b, 0x20746f6e, 0x65203720, 0x68656174, 0x20383bff);
        edges.due("without it", x.book(19), 1);
        edges.due("tone", x.count(0), 7);
        edges.due("heat", x.count(1), 8);
        edges.says("-5: it would have more than 900.");
        for (int i = 1; i <= 45; i++) {
            edges.due("feed, time " + i, x.feed(-1, -1, -1, -1, -1), 20 * i);
        }
        edges.due("feed, time 46", x.feed(0, 0, 0, 0, 0), -5);
        edges.due("feed, time 47", x.feed(0, 0, 0, 0, 0), -5);
        edges.due("count(8)", x.count(8), 900);
    }

    private void promise3() {
        edges.promise(3);
        edges.says("The first n bytes of THE TAPE (which is empty then) are THE BOOK, nobody spoke, nothing can be UNDONE:");
        MinuteBook x = new MinuteBook();
        Check.feed(x, START + "member;");
        edges.due("book(19) of 40", x.book(19), 1);
        edges.due("the tape", x.count(8), 0);
        edges.due("members", x.count(3), 0);
        edges.due("book(33)", Check.read(x, START + "member;saying;"), 3);
        x.say(0, 0);
        x.mark(0, 9);
        edges.due("can be undone", x.count(7), 2);
        edges.due("again", Check.read(x, "book tone 3 heat 4;member;saying;"), 3);
        int[] counts = {3, 4, -1, 1, 1, 0, 0, 0, 0, 3};
        for (int what = 0; what < 10; what++) {
            edges.due("count(" + what + ")", x.count(what), counts[what]);
        }
        edges.due("undo(1)", x.undo(1), -3);
        edges.due("adjourn()", x.adjourn(), 0);
        edges.says("how many LINES (book, too; all stays with a FAULT).");
        for (int more = 0; more <= 110; more += 10) {
            right(START + "stroke1;".repeat(more), 1 + more);
        }
        allStays();
        edges.says("-3: n is below 0 or above what there is (THE TAPE stays);");
        MinuteBook y = new MinuteBook();
        edges.due("book(1), nothing there", y.book(1), -3);
        edges.due("book(-1), nothing there", y.book(-1), -3);
        edges.due("fault(0)", y.fault(0), 0);
        edges.due("book(0), nothing there", y.book(0), -32);
        edges.due("fault(0) then", y.fault(0), 2);
        Check.feed(y, START);
        for (int n : new int[] {-1, 21, 900, 901, Integer.MIN_VALUE, Integer.MAX_VALUE}) {
            edges.due("book(" + n + ")", y.book(n), -3);
            edges.due("the tape", y.count(8), 20);
        }
        edges.due("book(20)", y.book(20), 1);
        Check.feed(y, START);
        edges.due("book(0)", y.book(0), -32);
        edges.due("the tape then", y.count(8), 0);
        edges.says("-30 less the FAULT.");
        edges.due("1", Check.read(y, "?"), -31);
        edges.due("2", Check.read(y, ";"), -32);
        edges.due("3", Check.read(y, "book tone 10"), -33);
        edges.due("4", Check.read(y, START + "member;".repeat(7)), -34);
    }

    /** A text with a fault at its end is read by one of two; the other one reads a text with the like fault and nothing else. */
    private void allStays() {
        String half = "book tone 8 heat 8;member mark 9;saying down 9 cool 9;would:1=2;closes:1=1;stroke 9;";
        String[] ends = {"?", ";", "stroke 11", "member;member;member;member;member;member"};
        int[] kinds = {1, 2, 3, 4};
        for (int i = 0; i < ends.length; i++) {
            String text = half + ends[i];
            int kind = kinds[i];
            Twins.alike(edges, text, x -> {
                Twins.usual(x);
                x.book(0);
                edges.due("a fault", Check.read(x, text), -30 - kind);
            }, y -> {
                Twins.usual(y);
                y.book(0);
                Check.read(y, like(text, kind));
            });
        }
    }

    /** A text with the same fault at the same place, but no other lines. */
    private static String like(String text, int kind) {
        int place = kind == 3 ? text.length() - 2 : kind == 4 ? text.length() - 6 : text.length() - 1;
        String bad = kind == 1 ? "?" : kind == 2 ? ";" : "11";
        String lines = START + (kind == 3 ? "stroke " : kind == 4 ? "member;".repeat(6) : "");
        return kind == 4 ? lines + " ".repeat(place - lines.length()) + "member" : lines + " ".repeat(place - lines.length()) + bad;
    }

    private void promise4() {
        edges.promise(4);
        edges.says("Of the latest book() that was read, what 0: its FAULT (0), 1: its place (NONE).");
        MinuteBook x = new MinuteBook();
        edges.due("fault(0) at first", x.fault(0), 0);
        edges.due("fault(1) at first", x.fault(1), -1);
        Check.read(x, "book tone 1 heat 1; ?");
        edges.due("fault(0)", x.fault(0), 1);
        edges.due("fault(1)", x.fault(1), 20);
        x.book(1);
        x.book(-1);
        edges.due("fault(0), none read", x.fault(0), 1);
        edges.due("fault(1), none read", x.fault(1), 20);
        x.book(0);
        edges.due("fault(0) of no bytes", x.fault(0), 2);
        edges.due("fault(1) of no bytes", x.fault(1), 0);
        Check.read(x, START);
        edges.due("fault(0) of a right one", x.fault(0), 0);
        edges.due("fault(1) of a right one", x.fault(1), -1);
        edges.says("NONE for others.");
        Check.read(x, START + "stroke 11;");
        for (int what : new int[] {-1, 2, 3, Integer.MIN_VALUE, Integer.MAX_VALUE}) {
            edges.due("fault(" + what + ")", x.fault(what), -1);
        }
    }
}
