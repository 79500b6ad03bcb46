import java.io.IOException;
import java.lang.reflect.Field;
import java.lang.reflect.Method;
import java.lang.reflect.Modifier;
import java.net.URL;
import java.net.URLClassLoader;
import java.nio.file.DirectoryStream;
import java.nio.file.Files;
import java.nio.file.Path;
import java.util.Comparator;
import java.util.List;
import java.util.Set;
import java.util.TreeSet;
import java.util.regex.Matcher;
import java.util.regex.Pattern;
import java.util.stream.Stream;
import javax.tools.JavaCompiler;
import javax.tools.ToolProvider;

/**
 * README.md's example is compiled and run as it stands, each call with the answer that stands behind it;
 * its tables are compared with the class and with the tests that there are.
 */
public final class ReadmeTest {
    private static final String ANSWER = "-?\\d+|NONE|UNKNOWN|OUTSIDE|NOT|FULL";
    // Calls within a loop or a helper stand deeper, or answer otherwise each time: they tell no answer.
    private static final Pattern CALL = Pattern.compile("(?m)^ {8}x\\.(\\w+)\\(.*$");
    private static final Pattern TOLD = Pattern.compile("(?m)^ {8}(x\\.(\\w+)\\([^;]*\\)); *// (" + ANSWER + ")(?=:|$).*$");
    private static final Pattern BLOCK = Pattern.compile("(?s)\n```java\n(.*?)\n```\n");

    private static final Check CHECK = new Check("ReadmeTest");
    private static int asTold;
    private static int otherwise;

    public static void main(String[] args) throws IOException, ReflectiveOperationException {
        String page = Files.readString(Path.of("README.md"));
        Matcher block = BLOCK.matcher(page);
        CHECK.holds("README.md has an example", block.find());
        String example = block.group(1);
        CHECK.holds("and no other", !block.find());
        theExampleTellsAnswers(example);
        theExampleStandsAsItIs(example);
        theAnswersAreTheClasses(example);
        aWrongAnswerIsFound(example);
        theTablesNameAll(page);
        CHECK.close();
    }

    /** Called by the example when its answers are looked at. */
    public static void answer(String call, int got, int told) {
        if (got == told) {
            asTold++;
        } else {
            otherwise++;
            System.out.println("README.md's " + call + " answers " + got + ", told is " + told);
        }
    }

    private static void theExampleTellsAnswers(String example) {
        CHECK.due("calls with an answer", count(TOLD, example), count(CALL, example));
        Set<String> called = new TreeSet<>();
        Set<String> told = new TreeSet<>();
        Matcher m = TOLD.matcher(example);
        while (m.find()) {
            called.add(m.group(2));
            told.add(m.group(3));
        }
        CHECK.holds("all calls of the face are in it: " + called, called.equals(face()));
        CHECK.holds("all refusals are in it: " + told, told.containsAll(constants()));
    }

    private static void theExampleStandsAsItIs(String example) throws IOException, ReflectiveOperationException {
        run(example);
        CHECK.due("answers looked at", asTold + otherwise, 0);
    }

    private static void theAnswersAreTheClasses(String example) throws IOException, ReflectiveOperationException {
        lookAtAnswers(example);
        CHECK.due("answers as told", asTold, count(TOLD, example));
        CHECK.due("answers that are not", otherwise, 0);
    }

    /** This test itself must see an answer that is not the class's. */
    private static void aWrongAnswerIsFound(String example) throws IOException, ReflectiveOperationException {
        String spoilt = example.replaceFirst("(x\\.town\\(\\); *// )6", "$17");
        CHECK.holds("an answer was spoilt", !spoilt.equals(example));
        System.out.println("(one answer is spoilt to see that it is found:)");
        lookAtAnswers(spoilt);
        CHECK.due("answers that are not", otherwise, 1);
    }

    private static void lookAtAnswers(String example) throws IOException, ReflectiveOperationException {
        StringBuilder s = new StringBuilder();
        Matcher m = TOLD.matcher(example);
        while (m.find()) {
            String told = m.group(3).matches("-?\\d+") ? m.group(3) : "RentedLooks." + m.group(3);
            String asked = "ReadmeTest.answer(\"" + m.group(1) + "\", " + m.group(1) + ", " + told + ");";
            m.appendReplacement(s, Matcher.quoteReplacement(asked));
        }
        m.appendTail(s);
        run(s.toString());
    }

    private static void run(String source) throws IOException, ReflectiveOperationException {
        asTold = 0;
        otherwise = 0;
        JavaCompiler compiler = ToolProvider.getSystemJavaCompiler();
        Path place = Files.createTempDirectory("readme");
        try {
            Path file = Files.writeString(place.resolve("Example.java"), source);
            int failed = compiler == null ? 1 : compiler.run(null, null, null, "-Xlint:all", "-Werror", "-d",
                place.toString(), "-cp", System.getProperty("java.class.path"), file.toString());
            CHECK.due("javac of README.md's example", failed, 0);
            if (failed == 0) {
                try (URLClassLoader loader = new URLClassLoader(new URL[] {place.toUri().toURL()})) {
                    Method main = loader.loadClass("Example").getMethod("main", String[].class);
                    main.invoke(null, (Object) new String[0]);
                }
            }
        } finally {
            clear(place);
        }
    }

    private static void clear(Path place) throws IOException {
        List<Path> all;
        try (Stream<Path> paths = Files.walk(place)) {
            all = paths.sorted(Comparator.reverseOrder()).toList();
        }
        for (Path path : all) {
            Files.delete(path);
        }
    }

    private static void theTablesNameAll(String page) throws IOException {
        Set<String> calls = new TreeSet<>();
        Matcher m = Pattern.compile("(?m)^\\| `(\\w+)\\(").matcher(page);
        while (m.find()) {
            CHECK.holds(m.group(1) + " stands once", calls.add(m.group(1)));
        }
        CHECK.holds("the table of calls: " + calls, calls.equals(face()));
        for (Field f : RentedLooks.class.getFields()) {
            String row = "| `" + f.getName() + "` | " + valueOf(f) + " |";
            CHECK.holds("the row " + row, page.contains("\n" + row));
        }
        try (DirectoryStream<Path> tests = Files.newDirectoryStream(Path.of("src/test/java"), "*Test.java")) {
            for (Path test : tests) {
                String name = test.getFileName().toString().replace(".java", "");
                CHECK.holds("the row of " + name, page.contains("\n| `" + name + "` | "));
            }
        }
        CHECK.holds("the one command", page.contains("\nbash .ci/run\n") && Files.isExecutable(Path.of(".ci/run")));
    }

    private static int valueOf(Field constant) {
        try {
            return constant.getInt(null);
        } catch (IllegalAccessException e) {
            return 0;
        }
    }

    private static int count(Pattern what, String text) {
        return (int) what.matcher(text).results().count();
    }

    private static Set<String> face() {
        Set<String> names = new TreeSet<>();
        for (Method m : RentedLooks.class.getDeclaredMethods()) {
            if (Modifier.isPublic(m.getModifiers())) {
                names.add(m.getName());
            }
        }
        return names;
    }

    private static Set<String> constants() {
        Set<String> names = new TreeSet<>();
        for (Field f : RentedLooks.class.getFields()) {
            names.add(f.getName());
        }
        return names;
    }
}
