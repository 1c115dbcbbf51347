import java.lang.reflect.InvocationTargetException;
import java.lang.reflect.Method;
import java.util.ArrayList;
import java.util.Arrays;
import java.util.Comparator;
import java.util.List;
import java.util.Map;

/**
 * Runs the tests of a class that say which sentence they are for, and sees to it that each word of each sentence of
 * the sections, lines of lists of arguments among them, stands in what a test says, but for the headings and the
 * sentences that promise nothing, which the class tells as plain.
 */
final class Sentences {
    private Sentences() {
    }

    static void ofPromises(Class<?> tests, int first, int last, String... plain) {
        List<String> sections = new ArrayList<>();
        for (int promise = first; promise <= last; promise++) {
            sections.add("Promise " + promise);
        }
        ofSections(tests, sections, plain);
    }

    static void ofSections(Class<?> tests, List<String> sections, String... plain) {
        Map<String, List<String>> document = Document.sections();
        List<Method> methods = testsOf(tests);
        for (Method test : methods) {
            runTest(test, document);
        }
        for (String section : sections) {
            List<String> sentences = document.getOrDefault(section, List.of());
            Checks.same(section + " stands in the document", false, sentences.isEmpty());
            List<String> said = new ArrayList<>(List.of(plain));
            for (Method test : methods) {
                Sentence quoted = test.getAnnotation(Sentence.class);
                if (quoted.in().equals(section)) {
                    said.add(quoted.says());
                }
            }
            for (String sentence : sentences) {
                Checks.same(section + ", not said by a test of: " + sentence, "", unsaid(sentence, said));
            }
        }
        Checks.finish();
    }

    /** The words of a sentence that are in nothing that is said, but for what joins its parts. */
    private static String unsaid(String sentence, List<String> said) {
        char[] left = sentence.toCharArray();
        for (String part : said) {
            int from = sentence.indexOf(part);
            if (from >= 0) {
                Arrays.fill(left, from, from + part.length(), '_');
            }
        }
        return new String(left).replaceAll("[_.,;:]|\\b(and|or)\\b", " ").replaceAll("\\s+", " ").strip();
    }

    private static List<Method> testsOf(Class<?> tests) {
        List<Method> methods = new ArrayList<>();
        for (Method method : tests.getDeclaredMethods()) {
            if (method.isAnnotationPresent(Sentence.class)) {
                methods.add(method);
            }
        }
        methods.sort(Comparator.comparing(Method::getName));
        return methods;
    }

    private static void runTest(Method test, Map<String, List<String>> document) {
        Sentence quoted = test.getAnnotation(Sentence.class);
        Checks.begin(quoted.in() + ", \"" + quoted.says() + "\", " + test.getName() + ": ");
        boolean isInDocument = document.getOrDefault(quoted.in(), List.of()).stream()
                .anyMatch(sentence -> sentence.contains(quoted.says()));
        Checks.same("the document says it", true, isInDocument);
        int before = Checks.count();
        try {
            test.invoke(null);
        } catch (InvocationTargetException e) {
            Checks.same("ends", "without an exception", e.getCause().toString());
        } catch (IllegalAccessException e) {
            throw new IllegalStateException(e);
        }
        Checks.same("checks something", true, Checks.count() > before);
        Checks.begin("");
    }
}
