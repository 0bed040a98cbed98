/** Edges of images and counts, and of how long an object is used; promises 43 to 45. */
final class ImageEdges {
    private static final int LEAST = Integer.MIN_VALUE;
    private static final int MOST = Integer.MAX_VALUE;
    private static final int[] OUT_OF_IMAGES = {-1, 2, 3, LEAST, MOST};
    private static final String PLAIN = "book tone 5 heat 2;member mark 3;member;saying up 1;saying cool 1;saying down 2 warm 1;stroke 3;";
    private static final String OTHER = "book tone 7 heat 0;member mark 9;saying up 1 warm 1;would : tone < 9;closes : tone = 9;";

    private final Edges edges;

    ImageEdges(Edges edges) {
        this.edges = edges;
    }

    void run() {
        edges.preface();
        callsOfAnObject();
        edges.terms();
        images();
        constants();
        promise43();
        promise44();
        promise45();
    }

    private void counts(MinuteBook x, String when, int... due) {
        for (int what = 0; what < due.length; what++) {
            edges.due(when + ": count(" + what + ")", x.count(what), due[what]);
        }
    }

    private void callsOfAnObject() {
        edges.says("An object is used for at most 512 calls after it has been made; what later calls answer is free.");
        MinuteBook x = new MinuteBook();
        Check.feed(x, PLAIN);
        int calls = (PLAIN.length() + 19) / 20;
        edges.due("book", x.book(PLAIN.length()), 7);
        calls++;
        int said = 0;
        while (calls < 511) {
            x.say(said % 2, 1);
            said++;
            calls++;
        }
        edges.due("the 512th call", x.adjourn(), said);
    }

    private void images() {
        edges.says("IMAGES 0 to 1: THE BOOK and what a call could bring back by UNDOING; nothing can be UNDONE behind (none at first).");
        MinuteBook x = new MinuteBook();
        edges.due("none at first: 0", x.restore(0), -5);
        edges.due("none at first: 1", x.restore(1), -5);
        Check.read(x, PLAIN);
        x.say(1, 2);
        x.mark(0, 8);
        x.say(1, 0);
        x.image(0);
        counts(x, "imaged", 4, 3, 1, 2, 3, 2, 8, 3, 0, 7);
        Check.read(x, OTHER);
        x.say(0, 0);
        x.image(1);
        counts(x, "the other book", 8, 1, 0, 1, 1, 1, 9, 1, 0, 5);
        edges.due("restore(0)", x.restore(0), 0);
        counts(x, "as it was", 4, 3, 1, 2, 3, 2, 8, 0, 0, 7);
        edges.due("nothing can be undone", x.undo(1), -3);
        edges.due("its stroke", x.stroke(4, 0), 49);
        edges.due("its laws", x.open(), 6);
        edges.due("restore(1)", x.restore(1), 0);
        counts(x, "as the other one was", 8, 1, 0, 1, 1, 1, 9, 0, 0, 5);
        edges.due("its laws", x.shortest(-1), 1);
        x.say(0, 0);
        edges.due("would it", x.open(), 0);
        edges.due("does it close", x.closed(), 1);
        edges.due("its first mood", x.adjourn(), 2);
        counts(x, "adjourned", 7, 0, -1, 1, 1, 0, 9, 2, 0, 5);
    }

    private void constants() {
        edges.says("`NONE = -1`: There is none.");
        edges.due("NONE", MinuteBook.NONE, -1);
    }

    private void promise43() {
        edges.promise(43);
        edges.says("An IMAGE is made: 0.");
        MinuteBook x = Check.told(PLAIN);
        edges.due("image(0)", x.image(0), 0);
        edges.due("the other one is not made", x.restore(1), -5);
        x.say(0, 0);
        edges.due("image(1)", x.image(1), 0);
        edges.due("what can be undone stays", x.count(7), 1);
        x.say(0, 0);
        edges.due("image(0) in place of the former", x.image(0), 0);
        x.adjourn();
        x.restore(1);
        edges.due("the second", x.count(0), 6);
        x.restore(0);
        edges.due("the third", x.count(0), 7);
        edges.says("-2.");
        for (int i : OUT_OF_IMAGES) {
            edges.due("image(" + i + ")", x.image(i), -2);
        }
        x.adjourn();
        x.restore(1);
        edges.due("the second stays", x.count(0), 6);
        x.restore(0);
        edges.due("the third stays", x.count(0), 7);
    }

    private void promise44() {
        edges.promise(44);
        edges.says("All that is in an IMAGE is as it was: 0.");
        MinuteBook x = Check.told(PLAIN);
        x.mark(0, 7);
        x.say(0, 2);
        x.image(1);
        x.mark(0, 1);
        x.mark(1, 2);
        x.adjourn();
        Check.lay(x, 0, 99, 1);
        Check.read(x, "?");
        Check.feed(x, OTHER);
        int taped = x.count(8);
        edges.due("restore(1)", x.restore(1), 0);
        counts(x, "as it was", 3, 3, 0, 2, 3, 1, 7, 0, taped, 7);
        edges.due("the tray is in no image", x.judge(0, 0), 0);
        edges.due("the fault is in no image", x.fault(0), 1);
        edges.due("the tape is in no image", x.book(OTHER.length()), 5);
        edges.due("again", x.restore(1), 0);
        counts(x, "as it was", 3, 3, 0, 2, 3, 1, 7, 0, 0, 7);
        x.say(1, 0);
        edges.due("and again", x.restore(1), 0);
        counts(x, "the image stays", 3, 3, 0, 2, 3, 1, 7, 0, 0, 7);
        MinuteBook y = new MinuteBook();
        y.image(0);
        Check.read(y, PLAIN);
        edges.due("without a book", y.restore(0), 0);
        counts(y, "as at first", 0, 0, -1, 0, 0, 0, 0, 0, 0, 0);
        edges.due("closed", y.closed(), 1);
        edges.says("-2; -5: none was made.");
        MinuteBook z = Check.told(PLAIN);
        z.say(0, 0);
        for (int i : OUT_OF_IMAGES) {
            edges.due("restore(" + i + ")", z.restore(i), -2);
        }
        for (int i = 0; i < 2; i++) {
            edges.due("none was made", z.restore(i), -5);
            z.image(i);
            edges.due("one was made", z.restore(i), 0);
        }
        edges.due("a text makes none", Check.told(PLAIN).restore(0), -5);
    }

    private void promise45() {
        edges.promise(45);
        edges.says("0 TONE, 1 HEAT, 2 who spoke last (NONE), 3 MEMBERS, 4 SAYINGS, 5 MINUTES SAID since it was ADJOURNED, 6 all MARKS together, 7 calls that can be UNDONE, 8 bytes on THE TAPE, 9 LINES.");
        MinuteBook x = Check.told(PLAIN);
        counts(x, "told", 5, 2, -1, 2, 3, 0, 3, 0, 0, 7);
        x.say(1, 2);
        counts(x, "said", 3, 3, 1, 2, 3, 1, 3, 1, 0, 7);
        x.mark(0, 9);
        x.mark(1, 9);
        counts(x, "marked", 3, 3, 1, 2, 3, 1, 18, 3, 0, 7);
        Check.feed(x, OTHER);
        counts(x, "fed", 3, 3, 1, 2, 3, 1, 18, 3, 100, 7);
        x.adjourn();
        counts(x, "adjourned", 5, 2, -1, 2, 3, 0, 18, 4, 100, 7);
        MinuteBook wide = Check.told("book tone 9 heat 9;" + "member mark 9;".repeat(6) + "saying;".repeat(8));
        counts(wide, "the most", 9, 9, -1, 6, 8, 0, 54, 0, 0, 15);
        wide.say(0, 0);
        edges.due("member 0 spoke last", wide.count(2), 0);
        edges.says("NONE for others.");
        for (int what : new int[] {-1, -2, 10, 11, LEAST, MOST}) {
            edges.due("count(" + what + ")", x.count(what), -1);
        }
    }
}
