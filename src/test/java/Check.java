/** Counts the answers that are not as due, and lays texts on the tape. */
final class Check {
    private int wrong;
    private int asked;
    private String about = "";

    void about(String what) {
        about = what;
    }

    void due(String call, long got, long want) {
        asked++;
        if (got != want) {
            wrong++;
            System.out.println(about + ": " + call + " answered " + got + ", due is " + want);
        }
    }

    void holds(String what, boolean right) {
        due(what, right ? 1 : 0, 1);
    }

    /** Ends the test, with exit code 1 if an answer was not as due. */
    void end() {
        System.out.println(wrong == 0 ? "all " + asked + " answers are as due" : wrong + " of " + asked + " answers are not as due");
        if (wrong != 0) {
            System.exit(1);
        }
    }

    /** Feeds a text, filled up with blanks, and reads as many bytes of it as the text has. */
    static int read(MinuteBook book, String text) {
        feed(book, text);
        return book.book(text.length());
    }

    static void feed(MinuteBook book, String text) {
        StringBuilder filled = new StringBuilder(text);
        while (filled.length() % 20 != 0) {
            filled.append(' ');
        }
        for (int at = 0; at < filled.length(); at += 20) {
            int[] ints = new int[5];
            for (int i = 0; i < 20; i++) {
                ints[i / 4] = ints[i / 4] << 8 | filled.charAt(at + i);
            }
            book.feed(ints[0], ints[1], ints[2], ints[3], ints[4]);
        }
    }

    /** A new object with a text that must be right. */
    static MinuteBook told(String text) {
        MinuteBook book = new MinuteBook();
        int lines = read(book, text);
        if (lines < 0) {
            throw new IllegalArgumentException(text + ": fault " + book.fault(0) + " at " + book.fault(1));
        }
        return book;
    }

    static void lay(MinuteBook book, int tray, long... numbers) {
        book.numbers(tray, 2, numbers.length);
        for (int i = 0; i < numbers.length; i++) {
            book.write(tray, i, numbers[i]);
        }
    }
}
