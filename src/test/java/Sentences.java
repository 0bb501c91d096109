import java.lang.reflect.InvocationTargetException;
import java.lang.reflect.Method;
import java.lang.reflect.Modifier;
import java.util.Map;
import java.util.TreeMap;

/**
 * Runs a class of tests in which each method stands for one sentence of the document: a static one
 * that takes Checks, named by the promise's number (promise02..) or by the part of the terms
 * (terms1..). No list is kept by hand, so that none can be left out of it.
 */
final class Sentences {
    private Sentences() {
    }

    static void run(Class<?> tests) throws IllegalAccessException, InvocationTargetException {
        Map<String, Method> sentences = new TreeMap<>();
        for (Method method : tests.getDeclaredMethods()) {
            boolean named = method.getName().matches("(promise[0-9]{2}|terms[1-4])[A-Z].*");
            if (named && Modifier.isStatic(method.getModifiers())) {
                sentences.put(method.getName(), method);
            }
        }
        int failed = 0;
        for (Map.Entry<String, Method> sentence : sentences.entrySet()) {
            Checks checks = new Checks(sentence.getKey() + ": ");
            sentence.getValue().invoke(null, checks);
            if (!checks.clean()) {
                failed++;
            }
        }
        System.out.println(sentences.size() - failed + " passed, " + failed + " failed");
        if (failed != 0 || sentences.isEmpty()) {
            System.exit(1);
        }
    }
}
