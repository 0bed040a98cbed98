import java.util.ArrayList;
import java.util.List;
import java.util.Random;

/** Texts of books by chance, right ones and wrong ones; the same seed gives the same texts. */
final class Texts {
    private static final String[] WORDS = {"book", "tone", "heat", "member", "mark", "saying", "up", "down", "warm",
        "cool", "would", "closes", "stroke", "or", "and", "not", "last", "who", "tea", "0", "1", "9", "10", "11", "999",
        "1000", "00009", ";", ":", "+", "-", "*", "(", ")", "[", "]", "=", "<", ">", ",", "A", "\t", "\u00e9", "?"};

    private final Random random;

    Texts(Random random) {
        this.random = random;
    }

    private int upTo(int most) {
        return random.nextInt(most + 1);
    }

    private boolean oneIn(int n) {
        return random.nextInt(n) == 0;
    }

    List<String> book(int mostMembers, int mostSayings) {
        List<String> tokens = new ArrayList<>();
        add(tokens, "book", "tone", "" + upTo(9), "heat", "" + upTo(9), ";");
        List<List<String>> lines = new ArrayList<>();
        int members = oneIn(12) ? upTo(mostMembers) : 1 + random.nextInt(mostMembers);
        int sayings = oneIn(12) ? upTo(mostSayings) : 1 + random.nextInt(mostSayings);
        for (int m = 0; m < members; m++) {
            lines.add(member());
        }
        for (int s = 0; s < sayings; s++) {
            lines.add(upTo(lines.size()), saying());
        }
        if (!oneIn(4)) {
            lines.add(upTo(lines.size()), law(true));
        }
        if (oneIn(6)) {
            lines.add(upTo(lines.size()), law(true));
        }
        if (!oneIn(3)) {
            lines.add(upTo(lines.size()), law(false));
        }
        if (!oneIn(3)) {
            lines.add(upTo(lines.size()), List.of("stroke", "" + upTo(10)));
        }
        for (List<String> line : lines) {
            tokens.addAll(line);
            tokens.add(";");
        }
        return tokens;
    }

    private static void add(List<String> tokens, String... more) {
        tokens.addAll(List.of(more));
    }

    private List<String> member() {
        List<String> line = new ArrayList<>(List.of("member"));
        for (int i = upTo(2); i > 0; i--) {
            add(line, "mark", "" + upTo(9));
        }
        return line;
    }

    private List<String> saying() {
        List<String> line = new ArrayList<>(List.of("saying"));
        for (int i = oneIn(9) ? 0 : 1 + upTo(2); i > 0; i--) {
            add(line, new String[] {"up", "down", "warm", "cool"}[upTo(3)], "" + (oneIn(4) ? upTo(9) : 1 + upTo(2)));
        }
        return line;
    }

    private List<String> law(boolean would) {
        List<String> line = new ArrayList<>(List.of(would ? "would" : "closes", ":"));
        if (oneIn(3)) {
            truth(line, 0, would);
        } else if (would) {
            usualWould(line);
        } else {
            usualCloses(line);
        }
        return line;
    }

    /** Laws by which much goes on, so that the searches have something to find. */
    private void usualWould(List<String> line) {
        switch (upTo(5)) {
            case 0 -> add(line, "not", "who", "=", "last");
            case 1 -> add(line, "mark", "+", "saying", ">", "tone", "-", "" + upTo(6));
            case 2 -> add(line, "mark", "*", "" + upTo(3), "<", "heat", "*", "2", "+", "" + upTo(9), "or", "saying", "=", "" + upTo(2));
            case 3 -> add(line, "[", "last", ">", "who", "or", "last", "<", "who", "]", "and", "saying", "<", "mark", "+", "1");
            case 4 -> add(line, "who", "+", "saying", "-", "1", "<", "heat", "+", "tone", "-", "mark", "+", "" + upTo(8));
            default -> add(line, "(", "tone", "+", "heat", ")", "*", "mark", "<", "" + (20 + upTo(60)), "and", "not", "last", "=", "who");
        }
        if (oneIn(3)) {
            line.add(oneIn(2) ? "or" : "and");
            both(line, 0, true);
        }
    }

    private void usualCloses(List<String> line) {
        switch (upTo(3)) {
            case 0 -> add(line, "heat", "<", "" + (1 + upTo(4)));
            case 1 -> add(line, "heat", "<", "" + (2 + upTo(4)), "and", "last", "=", "" + upTo(1));
            case 2 -> add(line, "tone", ">", "" + (3 + upTo(4)), "and", "heat", "<", "" + (3 + upTo(4)), "or", "last", "=", "2");
            default -> add(line, "tone", "=", "heat", "+", "" + upTo(3));
        }
    }

    private void truth(List<String> line, int deep, boolean would) {
        both(line, deep, would);
        while (oneIn(deep == 0 ? 2 : 4)) {
            line.add("or");
            both(line, deep, would);
        }
    }

    private void both(List<String> line, int deep, boolean would) {
        unit(line, deep, would);
        while (oneIn(4)) {
            line.add("and");
            unit(line, deep, would);
        }
    }

    private void unit(List<String> line, int deep, boolean would) {
        if (deep < 6 && oneIn(6)) {
            line.add("not");
            unit(line, deep + 1, would);
        } else if (deep < 6 && oneIn(6)) {
            line.add("[");
            truth(line, deep + 1, would);
            line.add("]");
        } else {
            sum(line, deep, would);
            line.add(new String[] {"=", "<", ">"}[upTo(2)]);
            sum(line, deep, would);
        }
    }

    private void sum(List<String> line, int deep, boolean would) {
        term(line, deep, would);
        while (oneIn(3)) {
            line.add(oneIn(2) ? "+" : "-");
            term(line, deep, would);
        }
    }

    private void term(List<String> line, int deep, boolean would) {
        atom(line, deep, would);
        while (oneIn(5)) {
            line.add("*");
            atom(line, deep, would);
        }
    }

    private void atom(List<String> line, int deep, boolean would) {
        if (deep < 6 && oneIn(8)) {
            line.add("(");
            sum(line, deep + 1, would);
            line.add(")");
        } else if (oneIn(3)) {
            line.add("" + (oneIn(8) ? upTo(999) : upTo(9)));
        } else {
            String[] words = {"tone", "heat", "last", "who", "mark", "saying"};
            line.add(words[upTo(would ? 5 : 2)]);
        }
    }

    /** Tokens with one or two of them wrong, perhaps. */
    List<String> spoilt(List<String> tokens) {
        List<String> spoilt = new ArrayList<>(tokens);
        for (int i = 1 + upTo(1); i > 0 && !spoilt.isEmpty(); i--) {
            int at = random.nextInt(spoilt.size());
            switch (upTo(3)) {
                case 0 -> spoilt.remove(at);
                case 1 -> spoilt.add(at, WORDS[upTo(WORDS.length - 1)]);
                case 2 -> spoilt.set(at, WORDS[upTo(WORDS.length - 1)]);
                default -> spoilt = new ArrayList<>(spoilt.subList(0, at));
            }
        }
        return spoilt;
    }

    /** The tokens as a text, blanks where they must be and here and there where they need not be. */
    String text(List<String> tokens) {
        StringBuilder text = new StringBuilder();
        for (String token : tokens) {
            char first = token.charAt(0);
            char last = text.length() == 0 ? ';' : text.charAt(text.length() - 1);
            boolean runOn = Character.isLowerCase(first) && Character.isLowerCase(last)
                || Character.isDigit(first) && Character.isDigit(last);
            if (runOn || oneIn(3)) {
                text.append(oneIn(5) ? '\n' : ' ');
            }
            text.append(token);
        }
        return text.toString();
    }
}
