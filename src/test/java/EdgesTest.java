import java.lang.reflect.InvocationTargetException;
import java.lang.reflect.Method;
import java.nio.file.Paths;
import java.util.Arrays;
import java.util.Comparator;
import java.util.HashSet;
import java.util.List;
import java.util.Set;

/**
 * Each sentence of the document has a test of its own, whose name tells its promise and what it is about, and which
 * quotes it. All tests that quote are run, each with a new object; every word of the Terms and the Promises must be
 * quoted by one of them, and every quoted word must stand there. With names of tests, those alone are run.
 */
public final class EdgesTest {
    private static final Class<?>[] GROUPS = {TextEdges.class, WeekEdges.class, PlanEdges.class, SentenceEdges.class,
        EarlyPromiseEdges.class, MiddlePromiseEdges.class, LatePromiseEdges.class};

    private EdgesTest() {
    }

    public static void main(String[] args) throws Exception {
        Document document = new Document(Paths.get("../shared/DOC.md"));
        List<String> sought = Arrays.asList(args);
        Set<String> found = new HashSet<>();
        for (Class<?> group : GROUPS) {
            Method[] methods = group.getDeclaredMethods();
            Arrays.sort(methods, Comparator.comparing(Method::getName));
            for (Method method : methods) {
                Says says = method.getAnnotation(Says.class);
                if (says != null && (sought.isEmpty() || sought.contains(method.getName()))) {
                    Check.due("another test named " + method.getName(), false, !found.add(method.getName()));
                    run(method);
                    quote(document, method.getName(), says);
                }
            }
        }
        Check.within("");
        if (sought.isEmpty()) {
            document.reportUnquoted();
        }
        for (String name : sought) {
            Check.due("there is a test " + name, true, found.contains(name));
        }
        System.out.println(found.size() + (found.size() == 1 ? " test of a sentence" : " tests of sentences"));
        Check.close();
    }

    private static void run(Method method) throws Exception {
        Check.within(method.getDeclaringClass().getName() + "." + method.getName() + ": ");
        try {
            method.invoke(null, new Bells());
        } catch (InvocationTargetException e) {
            Check.due("throws " + e.getCause(), 0, 1);
        }
    }

    private static void quote(Document document, String name, Says says) {
        String title = "What it is";
        if (name.startsWith("terms")) {
            title = "Terms";
        } else if (name.matches("promise[0-9][0-9].*")) {
            title = "Promise " + Integer.parseInt(name.substring(7, 9));
        }
        for (String words : says.value()) {
            document.quote(title, words);
        }
    }
}
