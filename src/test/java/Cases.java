import java.lang.reflect.InvocationTargetException;
import java.lang.reflect.Method;
import java.util.ArrayList;
import java.util.Comparator;
import java.util.List;

/**
 * Runs the cases of one promise. Each case is a static method of a class PromiseNNTest that is named
 * pNN and what it looks at, and takes a Telling of its own; above it stands the sentence of the
 * document that it holds the program to.
 */
final class Cases {
    private Cases() {
    }

    /** Runs all cases of a class, or those alone that are named, and ends with 1 if one fails. */
    static void run(Class<?> promise, String[] named) {
        int cases = 0;
        int failed = 0;
        int answers = 0;
        for (Method method : of(promise)) {
            if (named.length == 0 || List.of(named).contains(method.getName())) {
                Telling t = runOne(method);
                cases++;
                answers += t.checks();
                if (t.wrong() != 0 || t.checks() == 0) {
                    failed++;
                    System.out.println("FAILED: " + method.getName() + ", " + t.wrong() + " of " + t.checks());
                }
            }
        }
        System.out.println(promise.getName() + ": " + cases + " cases, " + answers + " answers, " + failed + " cases failed");
        if (failed != 0 || cases == 0) {
            System.exit(1);
        }
    }

    static List<Method> of(Class<?> promise) {
        String sign = "p" + promise.getName().replaceAll("\\D", "");
        List<Method> found = new ArrayList<>();
        for (Method method : promise.getDeclaredMethods()) {
            Class<?>[] takes = method.getParameterTypes();
            if (takes.length == 1 && takes[0] == Telling.class && method.getName().startsWith(sign)) {
                found.add(method);
            }
        }
        found.sort(Comparator.comparing(Method::getName));
        return found;
    }

    static Telling runOne(Method method) {
        Telling t = new Telling();
        try {
            method.setAccessible(true);
            method.invoke(null, t);
        } catch (InvocationTargetException e) {
            t.due(method.getName() + " threw " + e.getCause(), 1, 0);
        } catch (IllegalAccessException e) {
            t.due(method.getName() + " could not be run", 1, 0);
        }
        return t;
    }
}
