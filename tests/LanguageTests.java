import java.io.IOException;
import java.lang.reflect.Constructor;
import java.lang.reflect.Field;
import java.lang.reflect.Member;
import java.lang.reflect.Method;
import java.lang.reflect.Modifier;
import java.nio.file.Files;
import java.nio.file.Path;
import java.util.ArrayList;
import java.util.Arrays;
import java.util.HashSet;
import java.util.List;
import java.util.Set;
import java.util.TreeSet;
import java.util.regex.Pattern;

/**
 * The public face, member by member, and those rules of LANGUAGE.md that can be read off the file
 * or the compiled class. It is run in the project's folder.
 */
public final class LanguageTests {

    private static final Path FILE = Path.of("src/main/java/SkyLoom.java");

    /** The document's own lines, in its order, with what it says ahead of some of them. */
    private static final String[] FACE = {
        "// ---- stars and lines",
        "int addStar(int across, int up) throws IllegalArgumentException, IllegalStateException",
        "int correct(int star, int across, int up) throws "
            + "IndexOutOfBoundsException, IllegalArgumentException",
        "int addFigure() throws IllegalStateException",
        "int draw(int figure, int star, int other) throws "
            + "IndexOutOfBoundsException, IllegalArgumentException, IllegalStateException",
        "int erase(int figure, int line) throws IndexOutOfBoundsException",
        "int undo() throws IllegalStateException",
        "int stars()",
        "int figures()",
        "int lines(int figure) throws IndexOutOfBoundsException",
        "int placeOf(int star) throws IndexOutOfBoundsException",
        "int figureOf(int star) throws IndexOutOfBoundsException",
        "int crossings(int figure, int other) throws IndexOutOfBoundsException",
        "// ---- names",
        "int vote(int voter, int figure, int name) throws "
            + "IndexOutOfBoundsException, IllegalArgumentException",
        "int votes(int figure, int name) throws "
            + "IndexOutOfBoundsException, IllegalArgumentException",
        "int nameOf(int figure) throws IndexOutOfBoundsException",
        "// ---- heights",
        "int height(int star, int latitude, int day, int hour) throws "
            + "IndexOutOfBoundsException, IllegalArgumentException",
        "boolean isUp(int figure, int latitude, int day, int hour) throws "
            + "IndexOutOfBoundsException, IllegalArgumentException",
        "int hours(int figure, int latitude, int day) throws "
            + "IndexOutOfBoundsException, IllegalArgumentException",
        "int hoursByStars(int figure, int latitude, int day) throws "
            + "IndexOutOfBoundsException, IllegalArgumentException",
        "int bestHour(int figure, int latitude, int day) throws "
            + "IndexOutOfBoundsException, IllegalArgumentException",
        "int season(int figure, int latitude, int hour) throws "
            + "IndexOutOfBoundsException, IllegalArgumentException",
        "// ---- shows",
        "int plan(int figure, int latitude, int day, int hour) throws "
            + "IndexOutOfBoundsException, IllegalArgumentException, IllegalStateException",
        "boolean isWrong(int show) throws IndexOutOfBoundsException",
        "int wrong()",
    };

    private static final String[] RULED_OUT = {
        "->", "::", "\\blambda\\b", "\\bvar\\b", "\\bfinally\\b", "\\bsynchronized\\b",
        "\\bassert\\b", "\\binstanceof\\b", "\\bcatch\\b", "\\btry\\b", "\\bpublic static (?!final)",
        "\\bprotected\\b", "\\bnative\\b", "\\bstatic \\{", "\\bList\\b", "\\bSystem\\.",
        "\\bdouble\\b", "\\bfloat\\b", "^package ", "Exact\\(", "\" \\+", "\\+ \"",
    };

    private static int wrong = 0;

    public static void main(String[] args) throws IOException {
        checkFace();
        checkNames();
        checkClasses();
        checkOrder(Files.readString(FILE));
        checkText(Files.readAllLines(FILE));
        System.out.println("LanguageTests: " + wrong + " wrong");
        System.exit(wrong == 0 ? 0 : 1);
    }

    private static void checkFace() {
        Class<?> face = SkyLoom.class;
        check("the class is public and final", face.getModifiers()
                == (Modifier.PUBLIC | Modifier.FINAL) && face.getPackageName().isEmpty());
        Set<String> methods = new TreeSet<>();
        for (Method method : face.getDeclaredMethods()) {
            if (isSeen(method)) {
                methods.add(shortened(method.toString()));
            }
        }
        Set<String> due = new TreeSet<>();
        for (String member : FACE) {
            if (!isHeading(member)) {
                due.add("public " + withoutNames(member));
            }
        }
        check("the methods: " + methods, methods.equals(due));
        List<String> others = new ArrayList<>();
        for (Field field : face.getDeclaredFields()) {
            if (isSeen(field)) {
                others.add(field.toString());
            }
        }
        for (Constructor<?> constructor : face.getDeclaredConstructors()) {
            others.add(constructor.toString());
        }
        check("the constant and the constructor: " + others, others.equals(
                List.of("public static final int SkyLoom.NONE", "public SkyLoom()")));
    }

    private static boolean isHeading(String member) {
        return member.startsWith("//");
    }

    /** As the compiled class has it: without the names of the arguments. */
    private static String withoutNames(String member) {
        return member.replaceAll("(int) \\w+([,)])", "$1$2").replace(", ", ",");
    }

    private static boolean isSeen(Member member) {
        return !Modifier.isPrivate(member.getModifiers()) && !member.isSynthetic();
    }

    private static String shortened(String member) {
        return member.replace("java.lang.", "").replace("SkyLoom.", "");
    }

    /** The arguments bear the document's names, and all stands in its order. */
    private static void checkOrder(String text) {
        String spaced = text.replaceAll("\\s+", " ");
        int from = 0;
        for (String member : FACE) {
            int at = spaced.indexOf(isHeading(member) ? member : "public " + member + " {", from);
            check("in its place: " + member, at >= from);
            from = Math.max(from, at);
        }
    }

    private static void checkNames() {
        Set<String> seen = new HashSet<>();
        List<Method> hidden = new ArrayList<>();
        for (Method method : SkyLoom.class.getDeclaredMethods()) {
            if (isSeen(method)) {
                seen.add(method.getName());
            } else {
                hidden.add(method);
            }
        }
        for (Class<?> inside : SkyLoom.class.getDeclaredClasses()) {
            hidden.addAll(Arrays.asList(inside.getDeclaredMethods()));
        }
        for (Method method : hidden) {
            check("a name of the face: " + method, !seen.contains(method.getName()));
            check("parameters of " + method, method.getParameterCount() <= 7);
        }
    }

    private static void checkClasses() {
        Class<?>[] inside = SkyLoom.class.getDeclaredClasses();
        check("at most 12 classes", inside.length < 12);
        for (Class<?> one : inside) {
            check(one + " is private and static",
                    Modifier.isPrivate(one.getModifiers()) && Modifier.isStatic(one.getModifiers()));
            for (Field field : one.getDeclaredFields()) {
                checkStatic(field);
            }
        }
        for (Field field : SkyLoom.class.getDeclaredFields()) {
            checkStatic(field);
        }
    }

    private static void checkStatic(Field field) {
        boolean constant = Modifier.isFinal(field.getModifiers());
        check("no static state: " + field, constant || !Modifier.isStatic(field.getModifiers()));
    }

    private static void checkText(List<String> lines) {
        int methodStart = 0;
        for (int number = 0; number < lines.size(); number++) {
            String line = lines.get(number);
            String code = line.strip();
            boolean comment = code.startsWith("/*") || code.startsWith("*") || code.startsWith("//");
            check("a sign beyond 127 in line " + (number + 1),
                    line.chars().allMatch(sign -> sign > 0 && sign < 128));
            if (comment) {
                continue;
            }
            for (String ruledOut : RULED_OUT) {
                check(ruledOut + " in line " + (number + 1) + ": " + line,
                        !Pattern.compile(ruledOut).matcher(line).find());
            }
            check("an import in line " + (number + 1),
                    !code.startsWith("import") || code.equals("import java.util.Arrays;"));
            checkMakes(code, number + 1);
            if (code.isEmpty()) {
                methodStart = number;
            }
            check("a piece of over 60 lines at line " + number, number - methodStart <= 60);
        }
    }

    /** Nothing is made but the fields' own objects, once, and the exceptions. */
    private static void checkMakes(String code, int number) {
        if (code.contains("new ")) {
            boolean field = code.startsWith("private final ") && code.contains(" = new ");
            boolean thrown = code.matches("throw new \\w+Exception\\(\"[^\"]+\"\\);");
            check("something made in line " + number + ": " + code, field || thrown);
        }
    }

    private static void check(String what, boolean holds) {
        if (!holds) {
            wrong++;
            System.out.println("not so: " + what);
        }
    }
}
