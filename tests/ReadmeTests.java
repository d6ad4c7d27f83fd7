import java.io.ByteArrayOutputStream;
import java.io.IOException;
import java.io.PrintStream;
import java.nio.charset.StandardCharsets;
import java.nio.file.Files;
import java.nio.file.Path;
import javax.tools.ToolProvider;

/**
 * README.md's example compiles and prints what stands under it. It is run in the project's folder,
 * and puts the example beside its own class, where Java finds it.
 */
public final class ReadmeTests {

    private static final String LINE_END = "\n";

    public static void main(String[] args) throws IOException, ReflectiveOperationException {
        String readme = Files.readString(Path.of("README.md"));
        String printed = printedBy(block(readme, "java"));
        String due = block(readme, "text");
        boolean same = printed.equals(due) && !due.isEmpty();
        if (!same) {
            System.out.println("the example prints" + LINE_END + printed);
            System.out.println("due is" + LINE_END + due);
        }
        System.out.println("ReadmeTests: " + (same ? 0 : 1) + " wrong");
        System.exit(same ? 0 : 1);
    }

    /** What stands between the line ```kind and the next line of ```. */
    private static String block(String readme, String kind) {
        String opening = LINE_END + "```" + kind + LINE_END;
        int from = readme.indexOf(opening);
        int to = readme.indexOf(LINE_END + "```" + LINE_END, from + 1);
        return from < 0 || to < 0 ? "" : readme.substring(from + opening.length(), to + 1);
    }

    private static String printedBy(String example)
            throws IOException, ReflectiveOperationException {
        String folder = System.getProperty("java.class.path");
        Path source = Files.writeString(Path.of(folder, "Mine.java"), example);
        ByteArrayOutputStream said = new ByteArrayOutputStream();
        int failed = ToolProvider.getSystemJavaCompiler().run(null, said, said,
                "-cp", folder, "-d", folder, source.toString());
        if (failed == 0) {
            runMine(said);
        }
        return said.toString(StandardCharsets.UTF_8).replace(System.lineSeparator(), LINE_END);
    }

    private static void runMine(ByteArrayOutputStream said) throws ReflectiveOperationException {
        PrintStream screen = System.out;
        System.setOut(new PrintStream(said, true, StandardCharsets.UTF_8));
        Class.forName("Mine").getMethod("main", String[].class)
                .invoke(null, (Object) new String[0]);
        System.setOut(screen);
    }
}
