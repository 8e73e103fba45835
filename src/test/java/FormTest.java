import java.io.IOException;
import java.lang.reflect.Constructor;
import java.lang.reflect.Field;
import java.lang.reflect.Method;
import java.lang.reflect.Modifier;
import java.nio.file.Files;
import java.nio.file.Path;
import java.util.Arrays;
import java.util.Set;
import java.util.TreeSet;
import java.util.regex.Matcher;
import java.util.regex.Pattern;

/** The face that the document tells, and the form that LANGUAGE.md asks for. Runs from the project's folder. */
public final class FormTest {
    private static final String SOURCE = "src/main/java/TinselRiver.java";
    private static final String FACE = """
        int write(int) int wipe() int fault() int valley() int bed(int,long) int strand(int,int) long bends(int)
        int winter() int hang(int,int) int turn(int) int snip(int) int join(int,int) int undo()
        int later(int,int) int lasts(int) int overlap(int,int) int river(int) int covered() int ways()
        int judge(int,long) int lay(int,int) int unlay() int which(int) int share(int,boolean)
        int rests(int,int,int) int lost(int,boolean) long seed(long) int years(int) int keep(int) int again(int)
        int count(int)""";
    private static final Due DUE = new Due();

    public static void main(String[] args) throws IOException, ReflectiveOperationException {
        face();
        constants();
        nested();
        words(Files.readString(Path.of(SOURCE)));
        DUE.close();
    }

    private static void face() {
        DUE.about("the face");
        Set<String> wanted = new TreeSet<>();
        Matcher told = Pattern.compile("(int|long) \\w+\\([^)]*\\)").matcher(FACE);
        while (told.find()) {
            wanted.add(told.group());
        }
        Set<String> found = new TreeSet<>();
        Set<String> names = new TreeSet<>();
        for (Method m : TinselRiver.class.getDeclaredMethods()) {
            if (Modifier.isPublic(m.getModifiers())) {
                String parameters = Arrays.toString(Arrays.stream(m.getParameterTypes()).map(Class::getName).toArray());
                found.add(m.getReturnType() + " " + m.getName() + parameters.replace('[', '(').replace(']', ')').replace(" ", ""));
                names.add(m.getName());
            }
        }
        DUE.is("methods " + found, found.equals(wanted) ? 1 : 0, 1);
        for (Method m : TinselRiver.class.getDeclaredMethods()) {
            boolean own = Modifier.isPublic(m.getModifiers()) || Modifier.isPrivate(m.getModifiers()) || m.isSynthetic();
            DUE.is(m + " public or private", own ? 1 : 0, 1);
            DUE.is(m + " bears a public name", Modifier.isPrivate(m.getModifiers()) && names.contains(m.getName()) ? 1 : 0, 0);
        }
        Constructor<?>[] made = TinselRiver.class.getDeclaredConstructors();
        DUE.is("constructors", made.length, 1);
        DUE.is("parameters of the constructor", made[0].getParameterCount(), 0);
        DUE.is("final", Modifier.isFinal(TinselRiver.class.getModifiers()) ? 1 : 0, 1);
    }

    private static void constants() throws ReflectiveOperationException {
        DUE.about("the constants");
        DUE.is("UNKNOWN", TinselRiver.UNKNOWN, -1);
        DUE.is("OUTSIDE", TinselRiver.OUTSIDE, -2);
        DUE.is("STATE", TinselRiver.STATE, -3);
        DUE.is("FULL", TinselRiver.FULL, -4);
        DUE.is("NONE", TinselRiver.NONE, -9);
        DUE.is("public fields", TinselRiver.class.getFields().length, 5);
        for (Field f : TinselRiver.class.getDeclaredFields()) {
            boolean own = Modifier.isPublic(f.getModifiers()) || Modifier.isPrivate(f.getModifiers());
            DUE.is(f + " public or private", own ? 1 : 0, 1);
        }
    }

    private static void nested() {
        DUE.about("rules 2, 5, 11");
        for (Class<?> c : TinselRiver.class.getDeclaredClasses()) {
            DUE.is(c + " static", Modifier.isStatic(c.getModifiers()) ? 1 : 0, 1);
            DUE.is(c + " public", Modifier.isPublic(c.getModifiers()) ? 1 : 0, 0);
            for (Field f : c.getDeclaredFields()) {
                boolean state = Modifier.isStatic(f.getModifiers()) && !Modifier.isFinal(f.getModifiers());
                DUE.is(f + " static state", state ? 1 : 0, 0);
            }
            for (Method m : c.getDeclaredMethods()) {
                DUE.is(m + " more than seven parameters", m.getParameterCount() > 7 ? 1 : 0, 0);
            }
        }
        DUE.is("more than twelve classes", TinselRiver.class.getDeclaredClasses().length > 11 ? 1 : 0, 0);
    }

    private static void words(String source) {
        DUE.about("rules 3, 4, 6, 10, 13");
        String code = source.replaceAll("(?s)/\\*.*?\\*/", "").replaceAll("//[^\n]*", "");
        String[] ruledOut = {
            "\\b(throw|try|catch|synchronized|assert|import|package|protected|var)\\b", "->", "::", "Exact\\b",
            "\\b(System\\.(?!arraycopy)|Object|Thread|hashCode|toString)\\b", "\\bwhile \\(true\\)", "for \\(;;\\)", "\""};
        for (String word : ruledOut) {
            Matcher m = Pattern.compile(word).matcher(code);
            DUE.is("'" + word + "' in the source", m.find() ? 1 : 0, 0);
        }
        for (int i = 0; i < source.length(); i++) {
            if (source.charAt(i) > 126) {
                DUE.is("a sign beyond 126 at " + i, 1, 0);
            }
        }
    }
}
