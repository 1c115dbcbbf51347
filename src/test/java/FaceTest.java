import java.lang.reflect.Constructor;
import java.lang.reflect.Executable;
import java.lang.reflect.Field;
import java.lang.reflect.Method;
import java.lang.reflect.Modifier;
import java.util.ArrayList;
import java.util.List;
import java.util.Set;
import java.util.TreeSet;
import java.util.regex.Matcher;
import java.util.regex.Pattern;

/** "The public face" of the document, and nothing beside it; the promises are told by the same signatures. */
public final class FaceTest {
    public static void main(String[] args) {
        checkFace();
        checkPromises();
        checkSections();
        checkMembers();
        Checks.finish();
    }

    private static void checkFace() {
        Set<String> due = new TreeSet<>();
        Matcher line = Pattern.compile("(?m)^    public (.*);$").matcher(Document.text());
        while (line.find()) {
            due.add(line.group(1).replaceAll("\\b(int|char|boolean) \\w+(?=[,)])", "$1"));
        }
        Set<String> got = new TreeSet<>();
        for (Constructor<?> constructor : BindingPlanner.class.getConstructors()) {
            got.add(signature("BindingPlanner", constructor));
        }
        for (Method method : BindingPlanner.class.getDeclaredMethods()) {
            if (Modifier.isPublic(method.getModifiers())) {
                got.add(signature(method.getReturnType().getSimpleName() + " " + method.getName(), method));
            }
        }
        Checks.is("methods and constructor of the document", 38, due.size());
        Checks.same("the face", due, got);
        Checks.same("public final", true, Modifier.isPublic(BindingPlanner.class.getModifiers())
                && Modifier.isFinal(BindingPlanner.class.getModifiers()));
    }

    /** "The constructor and the methods follow, a promise each: the signature, then what it does." */
    private static void checkPromises() {
        Matcher face = Pattern.compile("(?m)^    public (.*);$").matcher(Document.text());
        Matcher promise = Pattern.compile("(?m)^## Promise (\\d+): (.*)\n\n`(.*)`\n").matcher(Document.text());
        for (int number = 1; number <= 38; number++) {
            Checks.same("a line of the face, and promise " + number, true, face.find() && promise.find());
            Checks.is("number of the promise", number, Integer.parseInt(promise.group(1)));
            Checks.same("signature of promise " + number, face.group(1), promise.group(3));
            String name = promise.group(3).replaceFirst("^(?:\\w+ )?(\\w+)\\(.*", "$1");
            Checks.same("name of promise " + number, promise.group(2), number == 1 ? "A new object" : name);
        }
        Checks.same("nothing behind the last one", false, face.find() || promise.find());
    }

    /** All that the tests of sentences know of: another section would have no test. */
    private static void checkSections() {
        List<String> due = new ArrayList<>(List.of("What it is", "Books", "Settings", "Pieces", "Materials", "Grain",
            "Stations", "Cloth", "Lots", "Prices", "Making", "Texts", "Changes", "In doubt", "Exceptions",
            "In doubt, too", "Description"));
        for (int promise = 1; promise <= 38; promise++) {
            due.add("Promise " + promise);
        }
        due.add("Not promised");
        Checks.same("sections of the document", due, new ArrayList<>(Document.sections().keySet()));
    }

    private static String signature(String name, Executable executable) {
        List<String> types = new ArrayList<>();
        for (Class<?> type : executable.getParameterTypes()) {
            types.add(type.getSimpleName());
        }
        List<String> thrown = new ArrayList<>();
        for (Class<?> type : executable.getExceptionTypes()) {
            thrown.add(type.getSimpleName());
        }
        String throwing = thrown.isEmpty() ? "" : " throws " + String.join(", ", thrown);
        return name + "(" + String.join(", ", types) + ")" + throwing;
    }

    /** The class has no member beside its face but private ones and classes inside. */
    private static void checkMembers() {
        for (Method method : BindingPlanner.class.getDeclaredMethods()) {
            boolean isShown = Modifier.isPublic(method.getModifiers()) || Modifier.isPrivate(method.getModifiers());
            Checks.same(method + " is public or private", true, isShown || method.isSynthetic());
        }
        for (Field field : BindingPlanner.class.getDeclaredFields()) {
            boolean isPrivate = Modifier.isPrivate(field.getModifiers());
            Checks.same(field + " is private", true, isPrivate || field.isSynthetic());
        }
        for (Class<?> inside : BindingPlanner.class.getDeclaredClasses()) {
            boolean isHidden = !Modifier.isPublic(inside.getModifiers()) && !Modifier.isProtected(inside.getModifiers());
            Checks.same(inside + " is private or package-visible", true, isHidden);
        }
        Checks.is("constructors", 1, BindingPlanner.class.getDeclaredConstructors().length);
    }
}
