import java.lang.reflect.InvocationTargetException;
import java.lang.reflect.Method;
import java.util.ArrayList;
import java.util.Arrays;
import java.util.Comparator;
import java.util.HashSet;
import java.util.List;
import java.util.Map;
import java.util.Set;

/**
 * Runs the tests of a class that say which sentence they are for, and sees to it that each sentence of the sections
 * has a test, but for those that are told to name no boundary case.
 */
final class Sentences {
    private Sentences() {
    }

    static void ofPromises(Class<?> tests, int first, int last, String... plain) {
        List<String> sections = new ArrayList<>();
        for (int promise = first; promise <= last; promise++) {
            sections.add("Promise " + promise);
        }
        ofSections(tests, sections, plain);
    }

    static void ofSections(Class<?> tests, List<String> sections, String... plain) {
        Map<String, List<String>> document = Document.sections();
        Set<String> plainSentences = new HashSet<>(Arrays.asList(plain));
        List<Method> methods = testsOf(tests);
        for (Method test : methods) {
            runTest(test, document);
        }
        for (String section : sections) {
            List<String> sentences = document.getOrDefault(section, List.of());
            Checks.same(section + " stands in the document", false, sentences.isEmpty());
            for (String sentence : sentences) {
                boolean isTold = isParameterWithoutNumber(sentence) || plainSentences.contains(sentence)
                        || methods.stream().anyMatch(test -> isFor(test, section, sentence));
                Checks.same(section + " has a test for: " + sentence, true, isTold);
            }
        }
        Checks.finish();
    }

    private static List<Method> testsOf(Class<?> tests) {
        List<Method> methods = new ArrayList<>();
        for (Method method : tests.getDeclaredMethods()) {
            if (method.isAnnotationPresent(Sentence.class)) {
                methods.add(method);
            }
        }
        methods.sort(Comparator.comparing(Method::getName));
        return methods;
    }

    private static boolean isFor(Method test, String section, String sentence) {
        Sentence quoted = test.getAnnotation(Sentence.class);
        return quoted.in().equals(section) && sentence.contains(quoted.says());
    }

    private static boolean isParameterWithoutNumber(String sentence) {
        return sentence.startsWith("- ") && sentence.chars().noneMatch(Character::isDigit);
    }

    private static void runTest(Method test, Map<String, List<String>> document) {
        Sentence quoted = test.getAnnotation(Sentence.class);
        Checks.begin(quoted.in() + ", \"" + quoted.says() + "\", " + test.getName() + ": ");
        boolean isInDocument = document.getOrDefault(quoted.in(), List.of()).stream()
                .anyMatch(sentence -> sentence.contains(quoted.says()));
        Checks.same("the document says it", true, isInDocument);
        int before = Checks.count();
        try {
            test.invoke(null);
        } catch (InvocationTargetException e) {
            Checks.same("ends", "without an exception", e.getCause().toString());
        } catch (IllegalAccessException e) {
            throw new IllegalStateException(e);
        }
        Checks.same("checks something", true, Checks.count() > before);
        Checks.begin("");
    }
}
