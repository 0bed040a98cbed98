import java.lang.reflect.InvocationTargetException;
import java.lang.reflect.Method;
import java.lang.reflect.Modifier;
import java.util.ArrayList;
import java.util.Comparator;
import java.util.List;
import java.util.Random;

/** Runs of calls by chance on the class and on PlainBook: each answer must be the same. */
public final class OracleTests {
    private static final int RUNS = Integer.getInteger("oracle.runs", 300);
    private static final int FIRST = Integer.getInteger("oracle.first", 0);
    private static final int CALLS = Integer.getInteger("oracle.calls", 120);

    /** Calls after which there is less to be seen, or that a run makes in other ways. */
    private static final List<String> SET_APART = List.of("feed", "book", "numbers", "restore", "adjourn", "undo");

    private final Random random;
    private final Texts texts;
    private final MinuteBook book = new MinuteBook();
    private final PlainBook plain = new PlainBook();
    private final List<String> told = new ArrayList<>();
    private boolean wrong;

    private OracleTests(long seed) {
        random = new Random(seed);
        texts = new Texts(random);
    }

    public static void main(String[] args) throws ReflectiveOperationException {
        List<Method> face = new ArrayList<>();
        for (Method method : MinuteBook.class.getDeclaredMethods()) {
            if (Modifier.isPublic(method.getModifiers())) {
                face.add(method);
            }
        }
        face.sort(Comparator.comparing(Method::getName));
        int wrongRuns = 0;
        for (int run = FIRST; run < FIRST + RUNS && wrongRuns < 5; run++) {
            OracleTests test = new OracleTests(run);
            test.run(face);
            if (test.wrong) {
                wrongRuns++;
                System.out.println("run " + run + ":");
                test.told.forEach(System.out::println);
            }
        }
        System.out.println(wrongRuns == 0 ? RUNS + " runs are as in the plain book" : wrongRuns + " runs are not as in the plain book");
        if (wrongRuns != 0) {
            System.exit(1);
        }
    }

    private void run(List<Method> face) throws ReflectiveOperationException {
        boolean large = random.nextInt(20) == 0;
        tellText(large);
        for (int tray = 0; tray < 4; tray++) {
            layMinutes(tray);
        }
        for (int i = 0; i < CALLS && !wrong; i++) {
            int chance = random.nextInt(50);
            if (chance == 0) {
                tellText(large);
            } else if (chance < 7) {
                layMinutes(random.nextInt(4));
            } else if (chance < 11) {
                saySomething();
            } else {
                Method method = face.get(random.nextInt(face.size()));
                if (!SET_APART.contains(method.getName()) || random.nextInt(8) == 0 && method.getParameterCount() < 5) {
                    call(method, argumentsFor(method));
                }
            }
        }
    }

    private void tellText(boolean large) throws ReflectiveOperationException {
        List<String> tokens = lively(large);
        if (random.nextInt(3) == 0) {
            tellTape(texts.text(texts.spoilt(tokens)));
            check("fault", 0);
            check("fault", 1);
        }
        tellTape(texts.text(tokens));
        check("fault", 0);
        check("fault", 1);
    }

    /** Most books are to have some minutes at first. */
    private List<String> lively(boolean large) {
        List<String> tokens = List.of();
        for (int i = 0; i < 10; i++) {
            tokens = large ? texts.book(6, 8) : texts.book(3, 4);
            PlainBook trial = new PlainBook();
            String text = texts.text(tokens);
            if (text.length() < 900) {
                text = text + " ".repeat(20 - text.length() % 20);
                feed(text, ints -> trial.feed(ints[0], ints[1], ints[2], ints[3], ints[4]));
                trial.book(trial.count(8));
                if (trial.open() > 1 && trial.tones() > 0) {
                    break;
                }
            }
        }
        return tokens;
    }

    private static void feed(String text, java.util.function.Consumer<int[]> tape) {
        for (int at = 0; at + 20 <= text.length(); at += 20) {
            int[] ints = new int[5];
            for (int k = 0; k < 20; k++) {
                ints[k / 4] = ints[k / 4] << 8 | text.charAt(at + k);
            }
            tape.accept(ints);
        }
    }

    private void saySomething() throws ReflectiveOperationException {
        check("say", random.nextInt(Math.max(1, plain.count(3))), random.nextInt(Math.max(1, plain.count(4))));
    }

    private void tellTape(String text) throws ReflectiveOperationException {
        told.add("  text " + text.replace("\n", "\\n"));
        StringBuilder padded = new StringBuilder(text);
        while (padded.length() % 20 != 0) {
            padded.append((char) random.nextInt(256));
        }
        List<int[]> fed = new ArrayList<>();
        feed(padded.toString(), fed::add);
        for (int[] ints : fed) {
            check("feed", ints[0], ints[1], ints[2], ints[3], ints[4]);
        }
        if (random.nextInt(20) == 0) {
            check("book", -1);
            check("book", 901);
        }
        check("book", text.length());
    }

    private void layMinutes(int tray) throws ReflectiveOperationException {
        int n = random.nextInt(10) == 0 ? random.nextInt(15) : 1 + random.nextInt(6);
        int sort = random.nextInt(4);
        check("numbers", tray, sort, n);
        int members = Math.max(1, plain.count(3));
        int sayings = Math.max(1, plain.count(4));
        int style = random.nextInt(3);
        for (int i = 0; i < n; i++) {
            long v = 10L * random.nextInt(members) + random.nextInt(sayings);
            if (style == 1 && random.nextInt(2) == 0) {
                v = -1;
            }
            if (style == 2 && random.nextInt(3) == 0) {
                v = 100 + 10L * random.nextInt(members) + random.nextInt(10);
            }
            if (random.nextInt(30) == 0) {
                v = random.nextInt(300) - 50;
            }
            call(MinuteBook.class.getMethod("write", int.class, int.class, long.class), new Object[] {tray, i, v});
        }
    }

    private Object[] argumentsFor(Method method) {
        Class<?>[] types = method.getParameterTypes();
        Object[] values = new Object[types.length];
        for (int i = 0; i < types.length; i++) {
            if (types[i] == long.class) {
                values[i] = random.nextInt(3) == 0 ? random.nextLong() : (long) (random.nextInt(300) - 100);
            } else {
                values[i] = argument(method.getName(), i);
            }
        }
        return values;
    }

    private int tone() {
        return random.nextInt(4) == 0 ? MinuteBook.NONE : random.nextInt(10);
    }

    private int argument(String name, int i) {
        if (random.nextInt(25) == 0) {
            return new int[] {-1, -2, 4, 6, 8, 9, 10, 11, 12, 29, 30, 40, 41, Integer.MIN_VALUE, Integer.MAX_VALUE}[random.nextInt(15)];
        }
        int members = Math.max(1, plain.count(3));
        int sayings = Math.max(1, plain.count(4));
        switch (name) {
            case "member":
                return i == 0 ? random.nextInt(members) : random.nextInt(3);
            case "saying":
                return i == 0 ? random.nextInt(sayings) : random.nextInt(3);
            case "say":
                return i == 0 ? random.nextInt(members) : random.nextInt(sayings);
            case "kept": case "attempt":
                return i == 0 ? random.nextInt(4) : random.nextInt(members);
            case "undo":
                return 1 + random.nextInt(3);
            case "monday":
                return i == 0 ? random.nextInt() : 1 + random.nextInt(12);
            case "rows":
                return i == 0 ? tone() : random.nextInt(11);
            case "calmest":
                return i == 0 ? tone() : random.nextBoolean() ? random.nextInt(2) : 10 + random.nextInt(8);
            case "shortest": case "needed": case "full": case "forces": case "best":
                return tone();
            case "minute": case "fullMinute": case "stroke":
                return i == 0 ? tone() : random.nextInt(name.equals("stroke") ? 2 : 8);
            case "errata": case "right": case "back": case "lists":
                return i == 0 ? random.nextInt(4) : i == 1 ? tone() : random.nextInt(7);
            case "without":
                return i == 0 ? random.nextInt(members) : tone();
            case "mark":
                return i == 0 ? random.nextInt(members) : random.nextInt(10);
            case "numbers":
                return i < 2 ? random.nextInt(4) : random.nextInt(8);
            case "count":
                return random.nextInt(10);
            case "image": case "restore":
                return random.nextInt(2);
            default:
                return random.nextInt(4);
        }
    }

    private void check(String name, Object... arguments) throws ReflectiveOperationException {
        Class<?>[] types = new Class<?>[arguments.length];
        java.util.Arrays.fill(types, int.class);
        call(MinuteBook.class.getMethod(name, types), arguments);
    }

    private void call(Method method, Object[] arguments) throws ReflectiveOperationException {
        if (wrong) {
            return;
        }
        long due = answer(PlainBook.class.getDeclaredMethod(method.getName(), method.getParameterTypes()), plain, arguments);
        long got = answer(method, book, arguments);
        told.add("  " + method.getName() + java.util.Arrays.toString(arguments) + " answered " + got + ", due is " + due);
        wrong = got != due;
    }

    private static long answer(Method method, Object on, Object[] arguments) throws ReflectiveOperationException {
        try {
            return ((Number) method.invoke(on, arguments)).longValue();
        } catch (InvocationTargetException thrown) {
            throw new IllegalStateException(method.getName(), thrown.getCause());
        }
    }
}
