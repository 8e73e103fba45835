import java.io.IOException;
import java.lang.reflect.Array;
import java.lang.reflect.Constructor;
import java.lang.reflect.Field;
import java.lang.reflect.Method;
import java.lang.reflect.Modifier;
import java.nio.file.Files;
import java.nio.file.Path;
import java.util.Arrays;
import java.util.Collections;
import java.util.IdentityHashMap;
import java.util.Set;
import java.util.TreeSet;
import java.util.regex.Matcher;
import java.util.regex.Pattern;

/** The face that the document tells, the room that an object takes, and words and signs that are ruled out. */
public final class FormTest {
    private static final String SOURCE = "src/main/java/TinselRiver.java";
    private static final String FACE = """
        int write(int) int wipe() int fault() int valley() int bed(int,long) int strand(int,int) long bends(int)
        int winter() int hang(int,int) int turn(int) int snip(int) int join(int,int) int undo()
        int later(int,int) int lasts(int) int overlap(int,int) int river(int) int covered() int ways()
        int judge(int,long) int lay(int,int) int unlay() int which(int) int share(int,boolean)
        int rests(int,int,int) int lost(int,boolean) long seed(long) int years(int) int keep(int) int again(int)
        int count(int)""";
    private static final Due DUE = new Due();

    public static void main(String[] args) throws IOException, ReflectiveOperationException {
        face();
        constants();
        room();
        words(Files.readString(Path.of(SOURCE)));
        DUE.close();
    }

    private static void face() {
        DUE.about("the face");
        Set<String> wanted = new TreeSet<>();
        Matcher told = Pattern.compile("(int|long) \\w+\\([^)]*\\)").matcher(FACE);
        while (told.find()) {
            wanted.add(told.group());
        }
        Set<String> found = new TreeSet<>();
        Set<String> names = new TreeSet<>();
        for (Method m : TinselRiver.class.getDeclaredMethods()) {
            if (Modifier.isPublic(m.getModifiers())) {
                String parameters = Arrays.toString(Arrays.stream(m.getParameterTypes()).map(Class::getName).toArray());
                found.add(m.getReturnType() + " " + m.getName() + parameters.replace('[', '(').replace(']', ')').replace(" ", ""));
                names.add(m.getName());
            }
        }
        DUE.is("methods " + found, found.equals(wanted) ? 1 : 0, 1);
        for (Method m : TinselRiver.class.getDeclaredMethods()) {
            boolean own = Modifier.isPublic(m.getModifiers()) || Modifier.isPrivate(m.getModifiers()) || m.isSynthetic();
            DUE.is(m + " public or private", own ? 1 : 0, 1);
            DUE.is(m + " bears a public name", Modifier.isPrivate(m.getModifiers()) && names.contains(m.getName()) ? 1 : 0, 0);
        }
        Constructor<?>[] made = TinselRiver.class.getDeclaredConstructors();
        DUE.is("constructors", made.length, 1);
        DUE.is("parameters of the constructor", made[0].getParameterCount(), 0);
        DUE.is("final", Modifier.isFinal(TinselRiver.class.getModifiers()) ? 1 : 0, 1);
    }

    private static void constants() throws ReflectiveOperationException {
        DUE.about("the constants");
        DUE.is("UNKNOWN", TinselRiver.UNKNOWN, -1);
        DUE.is("OUTSIDE", TinselRiver.OUTSIDE, -2);
        DUE.is("STATE", TinselRiver.STATE, -3);
        DUE.is("FULL", TinselRiver.FULL, -4);
        DUE.is("NONE", TinselRiver.NONE, -9);
        DUE.is("public fields", TinselRiver.class.getFields().length, 5);
        for (Field f : TinselRiver.class.getDeclaredFields()) {
            boolean own = Modifier.isPublic(f.getModifiers()) || Modifier.isPrivate(f.getModifiers());
            DUE.is(f + " public or private", own ? 1 : 0, 1);
        }
    }

    /** Only constructors make objects (LanguageTest sees to it), so an object is all the room that its calls take. */
    private static void room() throws ReflectiveOperationException {
        DUE.about("the room of one object");
        Set<Object> objects = Collections.newSetFromMap(new IdentityHashMap<>());
        int cells = cellsOf(new TinselRiver(), objects);
        DUE.is(objects.size() + " objects are some 270", objects.size() <= 300 ? 1 : 0, 1);
        DUE.is(cells + " fields and elements are some 1,600", cells <= 2000 ? 1 : 0, 1);
    }

    private static int cellsOf(Object object, Set<Object> seen) throws ReflectiveOperationException {
        if (object == null || !seen.add(object)) {
            return 0;
        }
        int cells = object.getClass().isArray() ? Array.getLength(object) : 0;
        if (object instanceof Object[] all) {
            for (Object element : all) {
                cells += cellsOf(element, seen);
            }
        }
        if (object.getClass().isArray()) {
            return cells;
        }
        for (Field field : object.getClass().getDeclaredFields()) {
            if (!Modifier.isStatic(field.getModifiers())) {
                field.setAccessible(true);
                cells += 1 + (field.getType().isPrimitive() ? 0 : cellsOf(field.get(object), seen));
            }
        }
        return cells;
    }

    private static void words(String source) {
        DUE.about("rules 3, 4, 6, 10, 13");
        String code = source.replaceAll("(?s)/\\*.*?\\*/", "").replaceAll("//[^\n]*", "");
        String[] ruledOut = {
            "\\b(throw|try|catch|synchronized|assert|import|package|protected|var)\\b", "->", "::", "Exact\\b",
            "\\b(System\\.(?!arraycopy)|Object|Thread|hashCode|toString)\\b", "\\bwhile \\(true\\)", "for \\(;;\\)", "\""};
        for (String word : ruledOut) {
            Matcher m = Pattern.compile(word).matcher(code);
            DUE.is("'" + word + "' in the source", m.find() ? 1 : 0, 0);
        }
        for (int i = 0; i < source.length(); i++) {
            if (source.charAt(i) > 126) {
                DUE.is("a sign beyond 126 at " + i, 1, 0);
            }
        }
    }
}
