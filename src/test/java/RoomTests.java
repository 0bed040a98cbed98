import java.lang.management.ManagementFactory;
import java.util.Random;

/** All calls of one run live in one room: a new object is small, and its calls make next to nothing. */
public final class RoomTests {
    private static final Check CHECK = new Check();
    private static final String LARGE = "book tone 0 heat 9;" + "member mark 3;member;member mark 5;".repeat(2)
        + "saying up 1;saying down 1;saying warm 1;saying cool 1;".repeat(2)
        + "would : not who = last and [mark + saying < tone + heat + 6 or saying = 3 or saying = 0];"
        + "closes : heat = 0 and last > 3 and tone > 7;stroke 3;";

    public static void main(String[] args) {
        runOf(new MinuteBook());
        long ahead = made();
        MinuteBook book = new MinuteBook();
        long object = made() - ahead;
        ahead = made();
        runOf(book);
        long calls = made() - ahead;
        System.out.println("bytes: a new object " + object + ", some 500 calls " + calls);
        CHECK.about("room");
        CHECK.holds("a new object has less than 250,000 bytes", object < 250000);
        CHECK.holds("some 500 calls make less than 150,000 bytes", calls < 150000);
        CHECK.end();
    }

    private static long made() {
        return ((com.sun.management.ThreadMXBean) ManagementFactory.getThreadMXBean()).getThreadAllocatedBytes(Thread.currentThread().getId());
    }

    private static void runOf(MinuteBook book) {
        Check.read(book, LARGE);
        book.numbers(0, 0, 12);
        book.numbers(1, 0, 10);
        for (int i = 0; i < 10; i++) {
            book.write(1, i, -1);
        }
        Random random = new Random(1);
        for (int i = 0; i < 20; i++) {
            int tone = random.nextInt(11) - 1;
            book.say(random.nextInt(6), random.nextInt(8));
            book.mark(random.nextInt(6), random.nextInt(10));
            book.minute(tone, 0);
            book.rows(tone, 10);
            book.needed(tone);
            book.fullMinute(tone, 3);
            book.calmest(tone, 11);
            book.keyword();
            book.right(0, tone, 11);
            book.back(0, tone);
            book.lost(1);
            book.sureMinute(1, 4);
            book.kept(0, 0);
            book.attempt(0, 0);
            book.best(tone);
            book.power();
            book.stroke(tone, 0);
            book.likeliest();
            book.lists(0, tone);
            book.image(i % 2);
            book.monday(i, 40);
            book.judge(0, 2);
            book.restore(i % 2);
        }
    }
}
