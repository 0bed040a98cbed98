import java.util.ArrayList;
import java.util.List;
import java.util.function.Consumer;
import java.util.function.Function;
import java.util.function.ToLongFunction;

/** Two objects that had the same calls but for one of them: all that can be seen of them must be the same. */
final class Twins {
    static final String FIRST_TEXT = "book tone 7 heat 6;member mark 1;saying down 3;saying cool 2;stroke 2;";
    /** Two members, three sayings; 11 is a minute at which somebody baulks if the mark of member 1 is 8 or 9. */
    static final String TEXT = "book tone 4 heat 3;member mark 2;member mark 5;saying up 1;saying cool 1;saying down 2 warm 1;"
        + "would : mark + saying < 9 and not [last = who and saying = 2];closes : heat < 2 and tone > 2;stroke 3;";
    /** All deeds of 6 members and 8 sayings can be, and each turns the sitting in its own way. */
    private static final String WIDE = "book tone 4 heat 4;" + "member;".repeat(6) + "saying up 1;saying down 1;saying warm 1;"
        + "saying cool 1;saying up 9;saying down 9;saying warm 9;saying cool 9;";
    private static final long ODD = 0x8182838485868788L;

    private Twins() {
    }

    /** A state with something of everything: an image, calls to undo, three trays, a fault, bytes on the tape. */
    static void usual(MinuteBook x) {
        Check.read(x, FIRST_TEXT);
        x.say(0, 1);
        x.mark(0, 6);
        x.image(0);
        Check.read(x, TEXT);
        x.say(0, 0);
        x.mark(1, 4);
        x.say(1, 1);
        x.numbers(0, 0, 3);
        x.write(0, 0, 11);
        x.write(0, 1, 2);
        x.write(0, 2, 1);
        x.numbers(1, 1, 5);
        x.write(1, 0, 10);
        x.write(1, 1, 107);
        x.write(1, 2, -1);
        x.write(1, 3, 12);
        x.write(1, 4, 200);
        x.numbers(2, 3, 2);
        x.write(2, 0, -1);
        x.write(2, 1, 1);
        Check.read(x, "book tone 10 heat 1;");
        Check.feed(x, "book tone 2 heat 1;saying up 4;member;?");
    }

    /** A call that is refused by a code changes nothing. */
    static void refused(Edges edges, String name, Consumer<MinuteBook> prelude, ToLongFunction<MinuteBook> call, long code) {
        alike(edges, name, x -> {
            prelude.accept(x);
            edges.due(name, call.applyAsLong(x), code);
        }, prelude);
    }

    static void alike(Edges edges, String name, Consumer<MinuteBook> one, Consumer<MinuteBook> other) {
        compare(edges, name + ": now", one, other, Twins::now);
        compare(edges, name + ": undone", one, other, Twins::undone);
        compare(edges, name + ": images", one, other, Twins::restored);
        compare(edges, name + ": tape", one, other, Twins::taped);
        for (int tray = 0; tray < 4; tray++) {
            int which = tray;
            compare(edges, name + ": tray " + tray, one, other, x -> numbersOf(x, which));
        }
    }

    private static void compare(Edges edges, String name, Consumer<MinuteBook> one, Consumer<MinuteBook> other,
            Function<MinuteBook, List<Long>> look) {
        MinuteBook x = new MinuteBook();
        MinuteBook y = new MinuteBook();
        one.accept(x);
        other.accept(y);
        List<Long> seen = look.apply(x);
        List<Long> due = look.apply(y);
        int differs = seen.size() == due.size() ? -1 : Math.min(seen.size(), due.size());
        for (int i = Math.min(seen.size(), due.size()) - 1; i >= 0; i--) {
            differs = seen.get(i).equals(due.get(i)) ? differs : i;
        }
        edges.due(name + ", the first that is another " + seen + " for " + due, differs, -1);
    }

    private static List<Long> now(MinuteBook x) {
        List<Long> seen = new ArrayList<>();
        for (int what = 0; what < 10; what++) {
            seen.add((long) x.count(what));
        }
        seen.add((long) x.fault(0));
        seen.add((long) x.fault(1));
        for (int what = 0; what < 3; what++) {
            for (int m = 0; m < 6; m++) {
                seen.add((long) x.member(m, what));
            }
            for (int s = 0; s < 8; s++) {
                seen.add((long) x.saying(s, what));
            }
        }
        seen.add((long) x.closed());
        seen.add((long) x.open());
        for (int tone = -1; tone < 10; tone++) {
            seen.add((long) x.shortest(tone));
            seen.add((long) x.minute(tone, 0));
            seen.add(x.stroke(tone, 1));
            seen.add((long) x.best(tone));
            seen.add(x.rows(tone, 3));
        }
        for (int tray = 0; tray < 4; tray++) {
            for (int what = 0; what < 4; what++) {
                seen.add((long) x.judge(tray, what));
            }
            seen.add((long) x.baulk(tray));
            seen.add((long) x.errata(tray, -1));
            seen.add((long) x.right(tray, -1, 0));
            seen.add(x.lost(tray));
            seen.add((long) x.sureMinute(tray, 0));
            seen.add((long) x.kept(tray, 1));
        }
        x.adjourn();
        seen.add((long) x.count(0));
        seen.add((long) x.count(1));
        return seen;
    }

    private static void sitting(MinuteBook x, List<Long> seen) {
        for (int what = 0; what < 8; what++) {
            seen.add((long) x.count(what));
        }
        for (int m = 0; m < 6; m++) {
            seen.add((long) x.member(m, 0));
            seen.add((long) x.member(m, 1));
        }
        seen.add((long) x.closed());
        seen.add((long) x.tones());
    }

    private static List<Long> undone(MinuteBook x) {
        List<Long> seen = new ArrayList<>();
        sitting(x, seen);
        long can = 0;
        for (int i = 0; i < 11 && can >= 0; i++) {
            can = x.undo(1);
            seen.add(can);
            sitting(x, seen);
        }
        return seen;
    }

    private static List<Long> restored(MinuteBook x) {
        List<Long> seen = new ArrayList<>();
        for (int i = 0; i < 2; i++) {
            seen.add((long) x.restore(i));
            sitting(x, seen);
            seen.add((long) x.count(9));
            seen.add((long) x.saying(0, 0));
            seen.add((long) x.saying(1, 1));
            seen.add(x.stroke(-1, 1));
            seen.add((long) x.adjourn());
            sitting(x, seen);
        }
        return seen;
    }

    private static List<Long> taped(MinuteBook x) {
        List<Long> seen = new ArrayList<>();
        seen.add((long) x.count(8));
        seen.add((long) x.book(x.count(8)));
        seen.add((long) x.fault(0));
        seen.add((long) x.fault(1));
        sitting(x, seen);
        return seen;
    }

    /** The numbers of a tray, the last first, by what they do in a wide book; each is written over when it was seen. */
    private static List<Long> numbersOf(MinuteBook x, int tray) {
        x.book(0);
        Check.read(x, WIDE);
        List<Long> seen = new ArrayList<>();
        long written = -7;
        for (int i = 39; i >= 0 && written != -6; i--) {
            if (written != -7) {
                seen.add((long) x.judge(tray, 1));
                seen.add((long) x.perform(tray));
                for (int what : new int[] {0, 1, 2, 5, 6}) {
                    seen.add((long) x.count(what));
                }
                x.undo(1);
            }
            written = x.write(tray, i, ODD);
            seen.add(written);
        }
        return seen;
    }
}
