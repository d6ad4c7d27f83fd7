import java.io.ByteArrayOutputStream;
import java.io.File;
import java.io.IOException;
import java.io.InputStream;
import java.nio.charset.StandardCharsets;
import java.nio.file.Files;
import java.nio.file.Path;
import java.util.ArrayList;
import java.util.List;
import javax.tools.JavaCompiler;
import javax.tools.ToolProvider;

/**
 * README.md's example compiles and prints what stands under it. It is run in the project's folder.
 */
public final class ReadmeTests {

    private static final String CLASS = "src/main/java/SkyLoom.java";
    private static final String LINE_END = "\n";

    public static void main(String[] args) throws IOException, InterruptedException {
        String readme = Files.readString(Path.of("README.md"));
        String printed = printedBy(block(readme, "java"));
        String due = block(readme, "text");
        boolean same = printed.equals(due) && !due.isEmpty();
        if (!same) {
            System.out.println("the example prints" + LINE_END + printed);
            System.out.println("due is" + LINE_END + due);
        }
        System.out.println("ReadmeTests: " + (same ? 0 : 1) + " wrong");
        System.exit(same ? 0 : 1);
    }

    /** What stands between the line ```kind and the next line of ```. */
    private static String block(String readme, String kind) {
        String opening = LINE_END + "```" + kind + LINE_END;
        int from = readme.indexOf(opening);
        int to = readme.indexOf(LINE_END + "```" + LINE_END, from + 1);
        return from < 0 || to < 0 ? "" : readme.substring(from + opening.length(), to + 1);
    }

    private static String printedBy(String example) throws IOException, InterruptedException {
        Path folder = Files.createTempDirectory("readme");
        Path source = Files.writeString(folder.resolve("Mine.java"), example);
        ByteArrayOutputStream said = new ByteArrayOutputStream();
        JavaCompiler compiler = ToolProvider.getSystemJavaCompiler();
        int failed = compiler.run(null, said, said,
                "-d", folder.toString(), CLASS, source.toString());
        String printed = failed == 0 ? runMine(folder) : said.toString(StandardCharsets.UTF_8);
        remove(folder);
        return printed;
    }

    private static String runMine(Path folder) throws IOException, InterruptedException {
        String java = Path.of(System.getProperty("java.home"), "bin", "java").toString();
        Process process = new ProcessBuilder(List.of(java, "-cp", folder.toString(), "Mine"))
                .redirectErrorStream(true).start();
        try (InputStream answers = process.getInputStream()) {
            String printed = new String(answers.readAllBytes(), StandardCharsets.UTF_8);
            process.waitFor();
            return printed.replace(System.lineSeparator(), LINE_END);
        }
    }

    private static void remove(Path folder) {
        List<File> files = new ArrayList<>(List.of(folder.toFile().listFiles()));
        files.add(folder.toFile());
        for (File file : files) {
            file.delete();
        }
    }
}
