import java.io.IOException;
import java.nio.file.DirectoryStream;
import java.nio.file.Files;
import java.nio.file.Path;
import java.util.Set;
import java.util.TreeSet;
import java.util.regex.Matcher;
import java.util.regex.Pattern;

/**
 * SENTENCES.md names tests that there are, all that bear a promise's name, and at least one for
 * each sentence and for each promise. It is run in the project's folder.
 */
public final class SentenceListTests {

    private static final Path TESTS = Path.of("tests");
    private static final int PROMISES = 25;
    private static final String NAME = "(?:promise\\d\\d|terms)_\\w+";
    private static final Pattern METHOD = Pattern.compile("static void (" + NAME + ")\\(\\)");
    private static final Pattern LISTED = Pattern.compile("`(" + NAME + ")(\\*?)`");
    private static final Pattern FILE = Pattern.compile("`(\\w+Tests)`");

    private static int wrong = 0;

    public static void main(String[] args) throws IOException {
        String list = Files.readString(TESTS.resolve("SENTENCES.md"));
        Set<String> methods = methods();
        Set<String> listed = listed(list, methods);
        for (String method : methods) {
            check(method + " is not listed", listed.contains(method));
        }
        for (int promise = 1; promise <= PROMISES; promise++) {
            String begin = String.format("promise%02d_", promise);
            String heading = "\n## Promise " + promise + ": ";
            check("no test for " + begin, methods.stream().anyMatch(one -> one.startsWith(begin)));
            check("no heading for promise " + promise, list.contains(heading));
        }
        checkFiles(list);
        checkSentences(list);
        System.out.println("SentenceListTests: " + methods.size() + " tests, " + wrong + " wrong");
        System.exit(wrong == 0 ? 0 : 1);
    }

    private static Set<String> methods() throws IOException {
        Set<String> methods = new TreeSet<>();
        try (DirectoryStream<Path> files = Files.newDirectoryStream(TESTS, "*.java")) {
            for (Path file : files) {
                Matcher method = METHOD.matcher(Files.readString(file));
                while (method.find()) {
                    check(method.group(1) + " is there twice", methods.add(method.group(1)));
                }
            }
        }
        return methods;
    }

    private static Set<String> listed(String list, Set<String> methods) {
        Set<String> listed = new TreeSet<>();
        Matcher name = LISTED.matcher(list);
        while (name.find()) {
            boolean begins = !name.group(2).isEmpty();
            boolean found = false;
            for (String method : methods) {
                if (begins ? method.startsWith(name.group(1)) : method.equals(name.group(1))) {
                    listed.add(method);
                    found = true;
                }
            }
            check("no such test: " + name.group(), found);
        }
        return listed;
    }

    private static void checkFiles(String list) {
        Matcher name = FILE.matcher(list);
        while (name.find()) {
            check("no such file: " + name.group(),
                    Files.exists(TESTS.resolve(name.group(1) + ".java")));
        }
    }

    private static void checkSentences(String list) {
        int from = list.indexOf("\n## ");
        int to = list.indexOf("\n## Not promised");
        for (String sentence : list.substring(from, to).split("\n- ")) {
            boolean heading = sentence.startsWith("\n## ");
            check("a sentence without a test: " + sentence,
                    heading || LISTED.matcher(sentence).find() || FILE.matcher(sentence).find());
        }
    }

    private static void check(String fault, boolean holds) {
        if (!holds) {
            wrong++;
            System.out.println(fault);
        }
    }
}
