/** Edges of laws: how they are told, what they ask, how they count. */
final class LawEdges {
    private static final String START = "book tone 1 heat 1;";
    /** 1,000,000, without a sign of its own within. */
    private static final String MILLION = "(999 + 1) * (999 + 1)";

    private final Edges edges;

    LawEdges(Edges edges) {
        this.edges = edges;
    }

    void run() {
        edges.terms();
        truths();
        units();
        sums();
        atoms();
        sixWithinOneAnother();
        minutesAreTold();
        wouldWithoutLaw();
        whatWouldAsks();
        keptWithinAMillion();
        elseItBaulks();
        toneAndHeatBehind();
        closesWithoutLaw();
    }

    private void law(String law, int holds) {
        edges.due(law, Check.told("book tone 4 heat 7;closes : " + law + ";").closed(), holds);
    }

    private void fault(String law, int kind, int place) {
        MinuteBook x = new MinuteBook();
        String text = START + "closes : " + law;
        edges.due(text, Check.read(x, text), -30 - kind);
        edges.due(text + " fault(1)", x.fault(1), 28 + place);
    }

    private void truths() {
        edges.says("TRUTH: BOTH { or BOTH }; BOTH: UNIT { and UNIT };");
        String[] units = {"1 = 2", "1 = 1"};
        for (int bits = 0; bits < 8; bits++) {
            int a = bits & 1;
            int b = bits >> 1 & 1;
            int c = bits >> 2 & 1;
            law(units[a], a);
            law(units[a] + " or " + units[b], a | b);
            law(units[a] + " and " + units[b], a & b);
            law(units[a] + " or " + units[b] + " and " + units[c], a | b & c);
            law(units[a] + " and " + units[b] + " or " + units[c], a & b | c);
            law("[" + units[a] + " or " + units[b] + "] and " + units[c], (a | b) & c);
        }
        law("1=2or ".repeat(140) + "1=1", 1);
        law("1=2or ".repeat(140) + "1=2", 0);
        law("1=1and ".repeat(120) + "1=1", 1);
        law("1=1and ".repeat(120) + "1=2", 0);
        law("1=2and ".repeat(120) + "1=1", 0);
        fault("1 = 1 or;", 2, 8);
        fault("1 = 1 and;", 2, 9);
        fault("or 1 = 1;", 2, 0);
        fault("and 1 = 1;", 2, 0);
        fault("1 = 1 or and 1 = 1;", 2, 9);
        fault("1 = 1 1 = 1;", 2, 6);
    }

    private void units() {
        edges.says("UNIT: not UNIT, [ TRUTH ], or SUM, one of = < >, SUM.");
        law("not 1 = 2", 1);
        law("not 1 = 1", 0);
        law("not not 1 = 1", 1);
        law("not 1 = 1 or 1 = 1", 1);
        law("not [1 = 1 or 1 = 1]", 0);
        law("not 1 = 2 and 1 = 2", 0);
        law("[1 = 1]", 1);
        for (int a = 0; a < 4; a++) {
            for (int b = 0; b < 4; b++) {
                law(a + " = " + b, a == b ? 1 : 0);
                law(a + " < " + b, a < b ? 1 : 0);
                law(a + " > " + b, a > b ? 1 : 0);
            }
        }
        fault("1;", 2, 1);
        fault("1 = 1 = 1;", 2, 6);
        fault("1 < > 1;", 2, 4);
        fault("[1] = 1;", 2, 2);
        fault("[1 = 1;", 2, 6);
        fault("1 = 1];", 2, 5);
        fault("[];", 2, 1);
        fault("not;", 2, 3);
        fault("not 1;", 2, 5);
        fault("1 = not 1;", 2, 4);
        fault("1 = [1 = 1];", 2, 4);
    }

    private void sums() {
        edges.says("SUM: TERM { + TERM | - TERM }; TERM: ATOM { * ATOM };");
        law("9 - 3 - 2 = 4", 1);
        law("9 - 3 + 2 = 8", 1);
        law("9 - (3 + 2) = 4", 1);
        law("2 + 3 * 4 = 14", 1);
        law("2 * 3 + 4 = 10", 1);
        law("2 * (3 + 4) = 14", 1);
        law("2 - 3 * 4 + 10 = 0", 1);
        law("2 - 3 < 0", 1);
        law("0 - 2 * 3 = 0 - 6", 1);
        law("1" + "+1".repeat(399) + "=400", 1);
        law("1" + "+1".repeat(399) + "=401", 0);
        law("500" + "-1".repeat(399) + "=101", 1);
        law("7" + "*1".repeat(400) + "=7", 1);
        law("1*1".repeat(1) + "+1*1".repeat(199) + "=200", 1);
        fault("1 + = 1;", 2, 4);
        fault("1 * = 1;", 2, 4);
        fault("1 + - 1 = 1;", 2, 4);
        fault("- 1 = 1;", 2, 0);
        fault("+ 1 = 1;", 2, 0);
        fault("* 1 = 1;", 2, 0);
        fault("1 = 1 +;", 2, 7);
        fault("1 = - 1;", 2, 4);
    }

    private void atoms() {
        edges.says("ATOM: N, ( SUM ), tone, heat, last, in would who, mark, saying too.");
        law("0 = 000", 1);
        law("999 = 998 + 1", 1);
        law("(1) = 1", 1);
        law("((1)) = (1)", 1);
        law("tone = 4", 1);
        law("heat = 7", 1);
        law("last = 9", 1);
        fault("() = 1;", 2, 1);
        fault("(1 = 1;", 2, 3);
        fault("(1 = 1);", 2, 3);
        fault("1) = 1;", 2, 1);
        fault("(1] = 1;", 2, 2);
        fault("who = 1;", 2, 0);
        fault("mark = 1;", 2, 0);
        fault("saying = 1;", 2, 0);
        fault("1 = up;", 2, 4);
        MinuteBook x = Check.told("book tone 4 heat 7;" + "member mark 3;".repeat(6) + "saying;".repeat(8)
            + "would : who = 5 and mark = 3 and saying = 7 and tone = 4 and heat = 7 and last = 9;");
        edges.due("who, mark, saying", x.open(), 1);
        edges.due("the one minute", x.member(5, 1), 128);
    }

    private void sixWithinOneAnother() {
        edges.says("At most six of not [ ( within one another.");
        for (int outer = 0; outer <= 6; outer++) {
            for (int bits = 0; bits < 1 << outer; bits++) {
                StringBuilder begin = new StringBuilder();
                StringBuilder end = new StringBuilder();
                for (int i = 0; i < outer; i++) {
                    boolean isNot = (bits >> i & 1) == 0;
                    begin.append(isNot ? "not " : "[");
                    end.append(isNot ? "" : "]");
                }
                int left = 6 - outer;
                within(begin.toString(), end.toString(), left);
            }
        }
        fault("[[[[[[1 = 1 and not 1 = 1", 4, 16);
        law("not not not not not not 1 = 1 and not 1 = 2", 1);
        law("((((((1)))))) = ((((((1)))))) and [[[[[[1 = 1]]]]]] and not not not not not not 1 = 1", 1);
        law("(1)+(1)+(1)+(1)+(1)+(1)+(1)+(1) = 8 and not 1 = 2 and not 1 = 2 and [1 = 1]", 1);
    }

    /** So many of ( may still be within what stands around: in either sum. */
    private void within(String begin, String end, int left) {
        String open = "(".repeat(left);
        String close = ")".repeat(left);
        MinuteBook x = new MinuteBook();
        String text = START + "closes : " + begin + open + "1" + close + " = " + open + "1" + close + end + ";";
        edges.due(text, Check.read(x, text), 2);
        int nots = (begin.length() - begin.replace("not", "").length()) / 3;
        edges.due(text + " closed()", x.closed(), nots % 2 == 0 ? 1 : 0);
        int place = begin.length() + left;
        fault(begin + open + "(1", 4, place);
        fault(begin + open + "1" + close + " = " + open + "(1", 4, place + 1 + left + 3 + left);
        if (left == 0) {
            fault(begin + "not 1 = 1", 4, place);
            fault(begin + "[1 = 1", 4, place);
        }
    }

    private void minutesAreTold() {
        edges.says("A MINUTE is a MEMBER that says a SAYING, told as 10 times the MEMBER, and the SAYING.");
        for (int m = 0; m < 6; m++) {
            for (int s = 0; s < 8; s++) {
                MinuteBook x = Check.told("book tone 0 heat 1;" + "member;".repeat(6) + "saying cool 1;".repeat(8)
                    + "would : who = " + m + " and saying = " + s + ";");
                edges.due("minute " + (10 * m + s), x.minute(-1, 0), 10 * m + s);
                Check.lay(x, 0, 10 * m + s);
                edges.due("perform " + (10 * m + s), x.perform(0), 1);
                edges.due("who spoke", x.count(2), m);
            }
        }
    }

    private void wouldWithoutLaw() {
        edges.says("A MEMBER WOULD say it, if the law would holds (without one: always):");
        for (int m = 0; m <= 6; m++) {
            for (int s = 0; s <= 8; s++) {
                String book = START + "member mark 9;".repeat(m) + "saying;".repeat(s);
                edges.due(m + " members, " + s + " sayings", Check.told(book).open(), m * s);
                edges.due("by a law that holds", Check.told(book + "would : 1 = 1;").open(), m * s);
                edges.due("by a law that doesn't", Check.told(book + "would : 1 = 2;").open(), 0);
            }
        }
    }

    private void whatWouldAsks() {
        edges.says("who: its number, mark: its MARK, saying: its number, tone, heat: as they are ahead, last: who spoke last (9: nobody did);");
        String book = "book tone 0 heat 9;member mark 9;member mark 8;member mark 7;member mark 6;member mark 5;member mark 4;"
            + "saying;saying;saying;saying;saying;saying;saying;saying up 1 cool 1;would : ";
        for (int n = 0; n < 6; n++) {
            MinuteBook x = Check.told(book + "who = " + n + ";");
            edges.due("who = " + n, x.saying(0, 2), 1 << n);
            MinuteBook y = Check.told(book + "mark = " + (9 - n) + ";");
            edges.due("mark = " + (9 - n), y.saying(0, 2), 1 << n);
            y.mark(n, 0);
            edges.due("marked anew", y.saying(0, 2), 0);
        }
        for (int n = 0; n < 8; n++) {
            edges.due("saying = " + n, Check.told(book + "saying = " + n + ";").member(5, 1), 1 << n);
        }
        MinuteBook x = Check.told(book + "tone = 0 and heat = 9;");
        edges.due("tone and heat ahead", x.say(3, 7), 18);
        edges.due("behind", x.say(3, 7), -12);
        edges.due("open then", x.open(), 0);
        MinuteBook y = Check.told(book + "last = 9 or who = last + 1;");
        edges.due("nobody spoke", y.open(), 48);
        for (int n = 0; n < 6; n++) {
            edges.due("member " + n, y.say(n, 0), 9);
            edges.due("behind it", y.saying(0, 2), n < 5 ? 1 << n + 1 : 0);
        }
        y.adjourn();
        edges.due("adjourned: nobody spoke", y.open(), 48);
    }

    private void keptWithinAMillion() {
        edges.says("each + - * is kept from -1,000,000 to 1,000,000.");
        String m = MILLION;
        String less = "(0 - " + m + ")";
        law("999 * 999 + 999 + 999 = " + m + " - 1", 1);
        law(m + " - 1 < " + m, 1);
        law(m + " + 1 = " + m, 1);
        law(m + " + 999 = " + m, 1);
        law(m + " + 1 - 1 = " + m + " - 1", 1);
        law(m + " - 1 + 2 - 1 = " + m + " - 1", 1);
        law("(999 + 1) * 999 + 999 + 1 = " + m, 1);
        law("(999 + 1) * 999 + 999 < " + m, 1);
        law("(999 + 1) * (999 + 2) = " + m, 1);
        law(m + " * 999 = " + m, 1);
        law(m + " * (999 + 1) * (999 + 1) * 999 = " + m, 1);
        law(less + " + 1 > " + less, 1);
        law(less + " - 1 = " + less, 1);
        law(less + " - 999 = " + less, 1);
        law(less + " - 1 + 1 > " + less, 1);
        law(less + " - 1 + 1 = 1 - " + m, 1);
        law("0 - " + m + " - " + m + " = " + less, 1);
        law("(0 - 999 - 1) * (999 + 1) = " + less, 1);
        law("(0 - 999 - 1) * (999 + 1) + 1 > " + less, 1);
        law("(0 - 999 - 1) * (999 + 2) = " + less, 1);
        law("(0 - 999 - 1) * 999 > " + less, 1);
        law(less + " * " + less + " = " + m, 1);
        law(less + " * (" + m + ") = " + less, 1);
        law("(" + m + ") * (" + m + ") = " + m, 1);
        law(m + " - (" + m + ") = 0", 1);
        law(m + " + (" + m + ") - (" + m + ") = 0", 1);
        law(less + " * 0 = 0", 1);
    }

    private void elseItBaulks() {
        edges.says("Else it BAULKS.");
        MinuteBook x = Check.told(START + "member;member;saying;saying;would : who = saying;");
        edges.due("0 says 0", x.say(0, 0), 11);
        edges.due("0 says 1", x.say(0, 1), -12);
        edges.due("1 says 0", x.say(1, 0), -12);
        edges.due("1 says 1", x.say(1, 1), 11);
    }

    private void toneAndHeatBehind() {
        edges.says("Behind it TONE and HEAT are as it turns them, 0 to 9 always; it spoke last.");
        for (int at = 0; at <= 9; at++) {
            for (int by = 0; by <= 9; by++) {
                MinuteBook x = Check.told("book tone " + at + " heat " + (9 - at) + ";member;member;member;saying up " + by + " cool " + by
                    + ";saying down " + by + " warm " + by + ";");
                int up = Math.min(9, at + by);
                edges.due(at + " up " + by, x.say(0, 0), 10 * up + 9 - up);
                edges.due("it spoke last", x.count(2), 0);
                x.undo(1);
                int down = Math.max(0, at - by);
                edges.due(at + " down " + by, x.say(2, 1), 10 * down + 9 - down);
                edges.due("it spoke last", x.count(2), 2);
            }
        }
    }

    private void closesWithoutLaw() {
        edges.says("The sitting CLOSES, if the law closes holds of TONE, HEAT, last (without one: if HEAT is 0).");
        for (int n = 0; n <= 9; n++) {
            edges.due("no law, heat " + n, Check.told("book tone 3 heat " + n + ";").closed(), n == 0 ? 1 : 0);
            edges.due("no law, tone " + n, Check.told("book tone " + n + " heat 0;").closed(), 1);
            edges.due("tone < 4 at " + n, Check.told("book tone " + n + " heat 1;closes : tone < 4;").closed(), n < 4 ? 1 : 0);
            edges.due("heat > 4 at " + n, Check.told("book tone 1 heat " + n + ";closes : heat > 4;").closed(), n > 4 ? 1 : 0);
        }
        edges.due("a law that doesn't hold at heat 0", Check.told("book tone 3 heat 0;closes : 1 = 2;").closed(), 0);
        MinuteBook x = Check.told(START + "member;".repeat(6) + "saying;closes : last > 4 and last < 9;");
        edges.due("nobody spoke", x.closed(), 0);
        for (int m = 0; m < 6; m++) {
            x.say(m, 0);
            edges.due(m + " spoke", x.closed(), m == 5 ? 1 : 0);
        }
        edges.due("by nobody", Check.told(START + "closes : last = 9;").closed(), 1);
    }
}
