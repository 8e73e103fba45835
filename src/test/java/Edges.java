import java.lang.reflect.InvocationTargetException;
import java.lang.reflect.Method;
import java.util.ArrayList;
import java.util.Comparator;
import java.util.List;

/** Finds the tests of a class that bear an Edge, and runs each by itself. */
final class Edges {
    /** Every class that holds such tests; EdgesToldTest looks that none is forgotten here. */
    static final List<Class<?>> ALL = List.of(EdgesValleyTest.class, EdgesActsTest.class, EdgesRiverTest.class,
        EdgesLaidTest.class, EdgesChanceTest.class, EdgesSlotsTest.class);

    private Edges() {
    }

    static List<Method> of(Class<?> tests) {
        List<Method> found = new ArrayList<>();
        for (Method method : tests.getDeclaredMethods()) {
            if (method.isAnnotationPresent(Edge.class)) {
                found.add(method);
            }
        }
        found.sort(Comparator.comparingInt((Method m) -> m.getAnnotation(Edge.class).promise())
            .thenComparing(Method::getName));
        return found;
    }

    static void run(Class<?> tests) {
        Due due = new Due();
        List<Method> found = of(tests);
        for (Method test : found) {
            Edge edge = test.getAnnotation(Edge.class);
            due.about("promise " + edge.promise() + ", " + test.getName() + ", \"" + edge.says() + "\"");
            runOne(due, test);
        }
        System.out.println(found.size() + " tests of edges");
        due.close();
    }

    private static void runOne(Due due, Method test) {
        int before = due.asked();
        try {
            test.invoke(null, due);
        } catch (InvocationTargetException e) {
            due.is("a test that threw " + e.getCause(), 1, 0);
        } catch (IllegalAccessException e) {
            due.is("a test that can not be run", 1, 0);
        }
        if (due.asked() == before) {
            due.is("a test that asks nothing", 1, 0);
        }
    }
}
