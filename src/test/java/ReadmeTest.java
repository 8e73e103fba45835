import java.io.IOException;
import java.lang.reflect.Method;
import java.lang.reflect.Modifier;
import java.nio.file.DirectoryStream;
import java.nio.file.Files;
import java.nio.file.Path;
import java.util.regex.Matcher;
import java.util.regex.Pattern;

/** README.md answers as the class does, and has each call and each test. Runs from the project's folder. */
public final class ReadmeTest {
    private static final Due DUE = new Due();

    private ReadmeTest() {
    }

    public static void main(String[] args) throws IOException {
        DUE.about("README.md");
        String page = Files.readString(Path.of("README.md"));
        answersAreSo(page);
        eachCallHasARow(page);
        eachTestHasALine(page);
        DUE.close();
    }

    private static void answersAreSo(String page) {
        int begin = page.indexOf("```java");
        int end = page.indexOf("```\n", begin + 1);
        DUE.is("there is an example", begin >= 0 && end > begin ? 1 : 0, 1);
        String example = page.substring(Math.max(begin, 0), Math.max(end, 0));
        Matcher text = Pattern.compile("\"(.*)\"").matcher(example);
        DUE.is("a text is told", text.find() ? 1 : 0, 1);
        Asked x = new Asked(DUE).write(text.group(1));
        Matcher line = Pattern.compile("river\\.(\\w+\\([^)]*\\));\\s*// (-?\\d+)").matcher(example);
        int told = x.calls();
        while (line.find()) {
            x.is(line.group(1), Long.parseLong(line.group(2)));
        }
        long lines = example.lines().filter(l -> l.startsWith("river.")).count();
        DUE.is("lines with an answer", x.calls() - told, lines);
    }

    private static void eachCallHasARow(String page) {
        int calls = 0;
        for (Method method : TinselRiver.class.getDeclaredMethods()) {
            if (Modifier.isPublic(method.getModifiers())) {
                calls++;
                Matcher row = Pattern.compile("(?m)^\\| `" + method.getName() + "\\(([^)]*)\\)` \\|").matcher(page);
                boolean found = row.find();
                int parameters = !found || row.group(1).isEmpty() ? 0 : row.group(1).split(",").length;
                DUE.is("a row for " + method.getName(), found ? 1 : 0, 1);
                DUE.is("parameters of " + method.getName(), parameters, method.getParameterCount());
            }
        }
        DUE.is("rows of calls", Pattern.compile("(?m)^\\| `").matcher(page).results().count(), calls);
    }

    private static void eachTestHasALine(String page) throws IOException {
        try (DirectoryStream<Path> all = Files.newDirectoryStream(Path.of("src/test/java"), "*Test.java")) {
            for (Path file : all) {
                String name = file.getFileName().toString().replace(".java", "");
                DUE.is("a line for " + name, page.contains("`" + name + "`") ? 1 : 0, 1);
            }
        }
    }
}
