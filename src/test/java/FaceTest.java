import java.io.IOException;
import java.lang.reflect.Constructor;
import java.lang.reflect.Executable;
import java.lang.reflect.Field;
import java.lang.reflect.Method;
import java.lang.reflect.Modifier;
import java.nio.file.Files;
import java.nio.file.Path;
import java.util.ArrayList;
import java.util.HashSet;
import java.util.List;
import java.util.Set;
import java.util.TreeSet;
import java.util.regex.Matcher;
import java.util.regex.Pattern;

/** The public face stands as in the document, and the source keeps to what LANGUAGE.md lets a glance see. */
public final class FaceTest {
    public static void main(String[] args) throws IOException {
        checkFace();
        checkSections();
        checkMembers();
        checkSource();
        Checks.finish();
    }

    private static void checkFace() {
        Set<String> due = new TreeSet<>();
        Matcher line = Pattern.compile("(?m)^    public (.*);$").matcher(Document.text());
        while (line.find()) {
            due.add(line.group(1).replaceAll("\\b(int|char|boolean) \\w+(?=[,)])", "$1"));
        }
        Set<String> got = new TreeSet<>();
        for (Constructor<?> constructor : BindingPlanner.class.getConstructors()) {
            got.add(signature("BindingPlanner", constructor));
        }
        for (Method method : BindingPlanner.class.getDeclaredMethods()) {
            if (Modifier.isPublic(method.getModifiers())) {
                got.add(signature(method.getReturnType().getSimpleName() + " " + method.getName(), method));
            }
        }
        Checks.is("methods and constructor of the document", 38, due.size());
        Checks.same("the face", due, got);
        Checks.same("public final", true, Modifier.isPublic(BindingPlanner.class.getModifiers())
                && Modifier.isFinal(BindingPlanner.class.getModifiers()));
    }

    /** All that the tests of sentences know of: another section would have no test. */
    private static void checkSections() {
        List<String> due = new ArrayList<>(List.of("What it is", "Books", "Settings", "Pieces", "Materials", "Grain",
            "Stations", "Cloth", "Lots", "Prices", "Making", "Texts", "Changes", "In doubt", "Exceptions",
            "In doubt, too", "Description"));
        for (int promise = 1; promise <= 38; promise++) {
            due.add("Promise " + promise);
        }
        due.add("Not promised");
        Checks.same("sections of the document", due, new ArrayList<>(Document.sections().keySet()));
    }

    private static String signature(String name, Executable executable) {
        List<String> types = new ArrayList<>();
        for (Class<?> type : executable.getParameterTypes()) {
            types.add(type.getSimpleName());
        }
        List<String> thrown = new ArrayList<>();
        for (Class<?> type : executable.getExceptionTypes()) {
            thrown.add(type.getSimpleName());
        }
        String throwing = thrown.isEmpty() ? "" : " throws " + String.join(", ", thrown);
        return name + "(" + String.join(", ", types) + ")" + throwing;
    }

    private static void checkMembers() {
        Set<String> publicNames = new HashSet<>();
        for (Method method : BindingPlanner.class.getDeclaredMethods()) {
            if (Modifier.isPublic(method.getModifiers())) {
                publicNames.add(method.getName());
            } else {
                Checks.same(method + " is private", true, Modifier.isPrivate(method.getModifiers()));
            }
        }
        List<Class<?>> classes = new ArrayList<>(List.of(BindingPlanner.class.getDeclaredClasses()));
        for (Class<?> inside : classes) {
            Checks.same(inside + " is static", true, Modifier.isStatic(inside.getModifiers()));
            Checks.same(inside + " is not public", false, Modifier.isPublic(inside.getModifiers()));
        }
        classes.add(BindingPlanner.class);
        Checks.same("at most twelve classes", true, classes.size() <= 12);
        for (Class<?> owner : classes) {
            checkFields(owner);
            for (Method method : owner.getDeclaredMethods()) {
                Checks.same(method + " has at most 7 parameters", true, method.getParameterCount() <= 7);
                boolean isOfFace = owner == BindingPlanner.class && Modifier.isPublic(method.getModifiers());
                Checks.same(method + " has a name of its own", true,
                        isOfFace || !publicNames.contains(method.getName()));
            }
        }
    }

    private static void checkFields(Class<?> owner) {
        int fields = 0;
        for (Field field : owner.getDeclaredFields()) {
            if (Modifier.isStatic(field.getModifiers())) {
                Checks.same(field + " is final", true, Modifier.isFinal(field.getModifiers()));
            } else {
                fields++;
            }
            if (owner == BindingPlanner.class) {
                Checks.same(field + " is private", true, Modifier.isPrivate(field.getModifiers()));
            }
        }
        Checks.same(owner + " has at most 20 fields", true, fields <= 20);
    }

    private static void checkSource() throws IOException {
        String source = Files.readString(Path.of("src/main/java/BindingPlanner.java"));
        Matcher imported = Pattern.compile("(?m)^import (.*);$").matcher(source);
        while (imported.find()) {
            Checks.same("import", "java.util.NoSuchElementException", imported.group(1));
        }
        Checks.same("signs 1 to 127 alone", true, source.chars().allMatch(sign -> sign >= 1 && sign <= 127));
        String[] ruledOut = {"(?m)^package", "->", "::", "\\bcatch\\b", "\\bfinally\\b", "\\bsynchronized\\b",
            "\\bassert\\b", "Exact\\(", "\\bclock|Random|Thread|System\\.(?!arraycopy)"};
        for (String pattern : ruledOut) {
            Checks.same("source has " + pattern, false, Pattern.compile(pattern).matcher(source).find());
        }
    }
}
