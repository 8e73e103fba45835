import java.io.IOException;
import java.lang.reflect.Method;
import java.nio.file.DirectoryStream;
import java.nio.file.Files;
import java.nio.file.Path;
import java.util.Set;
import java.util.TreeSet;
import java.util.regex.Matcher;
import java.util.regex.Pattern;

/**
 * Holds the tests of edges against the document: what a test quotes stands there, in its promise or in the terms,
 * and no part of a sentence is without a test. Runs from the project's folder.
 */
public final class EdgesToldTest {
    private static final int PROMISES = 32;
    private static final Due DUE = new Due();

    private EdgesToldTest() {
    }

    public static void main(String[] args) throws IOException {
        DUE.about("tests of edges");
        noClassIsForgotten();
        String doc = Files.readString(Path.of("../shared/DOC.md")).replaceAll("```\\w*", " ").replaceAll("\\s+", " ");
        String terms = between(doc, "REFUSALS, of several", "Ahead of the calls `write`");
        String use = between(doc, "An object is used for", "## The public face");
        boolean[] quoted = new boolean[terms.length()];
        for (int promise = 1; promise <= PROMISES; promise++) {
            String end = promise < PROMISES ? "## Promise " + (promise + 1) + ":" : "## Not promised";
            String section = between(doc, "## Promise " + promise + ":", end);
            String body = section.substring(section.indexOf("`: ") + 3).trim();
            boolean[] quotedOfBody = new boolean[body.length()];
            for (Edge edge : edgesOf(promise)) {
                boolean found = mark(quotedOfBody, body, edge.says()) | mark(quoted, terms, edge.says());
                DUE.is("'" + edge.says() + "' stands in promise " + promise + " or in the terms",
                    found || use.contains(edge.says()) ? 1 : 0, 1);
            }
            partsAreQuoted("promise " + promise, body, quotedOfBody);
        }
        partsAreQuoted("the terms", terms, quoted);
        DUE.close();
    }

    private static String between(String doc, String begin, String end) {
        int from = doc.indexOf(begin);
        int to = doc.indexOf(end, Math.max(from, 0));
        DUE.is("the document has '" + begin + "' and '" + end + "'", from >= 0 && to > from ? 1 : 0, 1);
        return from >= 0 && to > from ? doc.substring(from, to) : "";
    }

    private static Set<Edge> edgesOf(int promise) {
        Set<Edge> found = new java.util.LinkedHashSet<>();
        for (Class<?> tests : Edges.ALL) {
            for (Method test : Edges.of(tests)) {
                if (test.getAnnotation(Edge.class).promise() == promise) {
                    found.add(test.getAnnotation(Edge.class));
                }
            }
        }
        return found;
    }

    private static boolean mark(boolean[] quoted, String text, String says) {
        int at = text.indexOf(says);
        boolean found = at >= 0;
        while (at >= 0) {
            java.util.Arrays.fill(quoted, at, at + says.length(), true);
            at = text.indexOf(says, at + 1);
        }
        return found;
    }

    /** Parts end with a full stop, a semicolon or a colon. */
    private static void partsAreQuoted(String where, String text, boolean[] quoted) {
        Matcher part = Pattern.compile("[^.;:]+").matcher(text);
        while (part.find()) {
            boolean any = part.group().isBlank();
            for (int i = part.start(); i < part.end(); i++) {
                any = any || quoted[i];
            }
            DUE.is("a test for '" + part.group().trim() + "' of " + where, any ? 1 : 0, 1);
        }
    }

    private static void noClassIsForgotten() throws IOException {
        Set<String> files = new TreeSet<>();
        try (DirectoryStream<Path> all = Files.newDirectoryStream(Path.of("src/test/java"), "Edges*Test.java")) {
            for (Path file : all) {
                files.add(file.getFileName().toString().replace(".java", ""));
            }
        }
        files.remove("EdgesToldTest");
        Set<String> known = new TreeSet<>();
        for (Class<?> tests : Edges.ALL) {
            known.add(tests.getName());
        }
        DUE.is("classes of edges, " + files, known.equals(files) ? 1 : 0, 1);
    }
}
