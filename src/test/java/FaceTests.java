import java.io.IOException;
import java.lang.reflect.Field;
import java.lang.reflect.Member;
import java.lang.reflect.Method;
import java.lang.reflect.Modifier;
import java.nio.file.Files;
import java.nio.file.Path;
import java.util.ArrayList;
import java.util.List;
import java.util.TreeSet;
import java.util.regex.Matcher;
import java.util.regex.Pattern;

/** The class has the document's face and no other, and keeps to those rules of LANGUAGE.md that can be seen in its text. */
public final class FaceTests {
    private static final String FACE = """
        int feed(int,int,int,int,int)
        int book(int)
        int fault(int)
        int member(int,int)
        int saying(int,int)
        int closed()
        int open()
        int say(int,int)
        int mark(int,int)
        int adjourn()
        int undo(int)
        int judge(int,int)
        int perform(int)
        int monday(int,int)
        int shortest(int)
        int minute(int,int)
        long rows(int,int)
        int without(int,int)
        int needed(int)
        int full(int)
        int fullMinute(int,int)
        int tones()
        int calmest(int,int)
        int keyword()
        int baulk(int)
        int errata(int,int)
        int right(int,int,int)
        int back(int,int)
        long lost(int)
        int sureMinute(int,int)
        int speakers(int,int)
        int kept(int,int)
        int attempt(int,int)
        int forces(int)
        int best(int)
        int power()
        long stroke(int,int)
        int likeliest()
        int numbers(int,int,int)
        long write(int,int,long)
        int lists(int,int)
        int image(int)
        int restore(int)
        int count(int)
        """;
    private static final Check CHECK = new Check();

    public static void main(String[] args) throws IOException {
        face();
        source(Files.readString(Path.of(System.getProperty("project.root", "."), "src/main/java/MinuteBook.java")));
        CHECK.end();
    }

    private static boolean isSeen(Member member) {
        return !Modifier.isPrivate(member.getModifiers());
    }

    private static void face() {
        CHECK.about("face");
        TreeSet<String> seen = new TreeSet<>();
        List<String> hidden = new ArrayList<>();
        for (Method method : MinuteBook.class.getDeclaredMethods()) {
            StringBuilder line = new StringBuilder(method.getReturnType() + " " + method.getName() + "(");
            for (Class<?> type : method.getParameterTypes()) {
                line.append(line.charAt(line.length() - 1) == '(' ? "" : ",").append(type);
            }
            if (isSeen(method)) {
                seen.add(line + ")");
                CHECK.holds(line + ") is public", method.getModifiers() == Modifier.PUBLIC);
            } else {
                hidden.add(method.getName());
            }
        }
        TreeSet<String> wanted = new TreeSet<>(List.of(FACE.strip().split("\n")));
        CHECK.holds("methods: " + seen, seen.equals(wanted));
        for (String line : wanted) {
            String name = line.substring(line.indexOf(' ') + 1, line.indexOf('('));
            CHECK.holds("no private method bears the name " + name, !hidden.contains(name));
        }
        for (Field field : MinuteBook.class.getDeclaredFields()) {
            CHECK.holds("field " + field.getName(), !isSeen(field) || field.getName().equals("NONE"));
        }
        staticFields(MinuteBook.class);
        CHECK.holds("public final class", MinuteBook.class.getModifiers() == (Modifier.PUBLIC | Modifier.FINAL));
        CHECK.due("constructors", MinuteBook.class.getDeclaredConstructors().length, 1);
        CHECK.due("public constructors", MinuteBook.class.getConstructors().length, 1);
        CHECK.holds("some twelve classes", MinuteBook.class.getDeclaredClasses().length <= 12);
        for (Class<?> inside : MinuteBook.class.getDeclaredClasses()) {
            CHECK.holds(inside + " is static", Modifier.isStatic(inside.getModifiers()));
            CHECK.holds(inside + " is not public", !Modifier.isPublic(inside.getModifiers()));
            staticFields(inside);
            long fields = List.of(inside.getDeclaredFields()).stream().filter(f -> !Modifier.isStatic(f.getModifiers())).count();
            CHECK.holds(inside + " has some twenty fields", fields <= 20);
        }
    }

    /** Static fields are final: constants of some types, or arrays written out. */
    private static void staticFields(Class<?> type) {
        for (Field field : type.getDeclaredFields()) {
            if (Modifier.isStatic(field.getModifiers())) {
                CHECK.holds(field + " is final", Modifier.isFinal(field.getModifiers()));
                CHECK.holds(field + " has a type that may be", List.of(int.class, long.class, boolean.class, char.class,
                    String.class, int[].class, long[].class, char[].class, byte[].class).contains(field.getType()));
            }
        }
    }

    private static void source(String source) {
        CHECK.about("language");
        String code = source.replaceAll("(?s)/\\*.*?\\*/", " ").replaceAll("//[^\n]*", " ")
            .replaceAll("\"(\\\\.|[^\"\\\\])*\"", "\"\"").replaceAll("'(\\\\.|[^'\\\\])'", "'c'");
        for (String word : new String[] {"throw", "throws", "try", "catch", "finally", "synchronized", "assert", "native",
            "volatile", "transient", "package", "protected", "var", "Object", "Exception", "double", "float"}) {
            CHECK.holds("no " + word, !Pattern.compile("\\b" + word + "\\b").matcher(code).find());
        }
        for (String sign : new String[] {"->", "::", "@", "\u0000"}) {
            CHECK.holds("no " + sign, !code.contains(sign));
        }
        List<String> allowed = List.of("Arrays.fill", "System.arraycopy", "Math.max", "Math.min", "Integer.bitCount",
            "Long.bitCount");
        Matcher library = Pattern.compile("\\b(Arrays|System|Math|Integer|Long|String|Character|Byte|Short)\\.\\w+").matcher(code);
        while (library.find()) {
            CHECK.holds(library.group(), allowed.contains(library.group()));
        }
        Matcher imports = Pattern.compile("import [^;]+;").matcher(code);
        while (imports.find()) {
            CHECK.holds(imports.group(), imports.group().equals("import java.util.Arrays;"));
        }
        CHECK.holds("signs 1 to 127", source.chars().allMatch(c -> c == '\n' || c >= 32 && c < 127));
        // A loop that shifts a negative number so would not end.
        CHECK.holds("no >>=", !Pattern.compile("(?<!>)>>=").matcher(code).find());
        Matcher method = Pattern.compile("(?m)^( +)[\\w\\[\\]<> ]+\\(([^;{}]*)\\) \\{\n((?:\\1 .*\n|\n)*)").matcher(code);
        while (method.find()) {
            if (method.group(1).length() <= 8) {
                CHECK.holds("short: " + method.group().lines().findFirst().orElse(""), method.group(3).lines().count() <= 60);
                CHECK.holds("seven parameters", method.group(2).split(",").length <= 7);
            }
        }
    }
}
