import java.io.IOException;
import java.lang.reflect.Constructor;
import java.lang.reflect.Field;
import java.lang.reflect.Method;
import java.lang.reflect.Modifier;
import java.nio.file.Files;
import java.nio.file.Path;
import java.util.Arrays;
import java.util.Set;
import java.util.TreeSet;

/** The public face of the document, and those rules of the language that are easily seen. */
public final class FaceTest {
    private static final Due due = new Due();
    private static final String[] METHODS = {
        "long table(int, long) IndexOutOfBoundsException",
        "long word(int) IndexOutOfBoundsException",
        "int context(int) IndexOutOfBoundsException",
        "int root(int, int) IndexOutOfBoundsException IllegalArgumentException",
        "int host(int, int) IndexOutOfBoundsException IllegalArgumentException",
        "boolean hosts(boolean)",
        "int walk(int, int) IllegalArgumentException",
        "int to()",
        "int level()",
        "int plain(int, int) IllegalArgumentException",
        "int flush(int, int) IllegalArgumentException",
        "int kept(int, int) IndexOutOfBoundsException",
        "int stale(int) IllegalArgumentException",
        "int count(int)",
    };

    public static void main(String[] args) throws IOException {
        classIsPublicAndFinal();
        methodsAreThoseOfTheDocument();
        constructorIsThatOfTheDocument();
        constantsAreThoseOfTheDocument();
        staticFieldsAreConstants();
        innerClassesAreHidden();
        sourceKeepsToTheLanguage();
        due.end();
    }

    private static void isTrue(String what, boolean so) {
        due.same(what, so ? 1 : 0, 1);
    }

    private static void classIsPublicAndFinal() {
        int modifiers = PageRows.class.getModifiers();
        isTrue("public", Modifier.isPublic(modifiers));
        isTrue("final", Modifier.isFinal(modifiers));
        isTrue("no package", PageRows.class.getPackageName().isEmpty());
        isTrue("no class above it", PageRows.class.getSuperclass() == Object.class);
        due.same("interfaces", PageRows.class.getInterfaces().length, 0);
    }

    private static void methodsAreThoseOfTheDocument() {
        Set<String> names = new TreeSet<>();
        Set<String> found = new TreeSet<>();
        for (Method method : PageRows.class.getDeclaredMethods()) {
            if (Modifier.isPublic(method.getModifiers())) {
                names.add(method.getName());
                found.add(written(method));
            }
        }
        Set<String> want = new TreeSet<>(Arrays.asList(METHODS));
        isTrue("public methods " + found, found.equals(want));
        for (Method method : PageRows.class.getDeclaredMethods()) {
            int modifiers = method.getModifiers();
            if (!Modifier.isPublic(modifiers)) {
                isTrue(method.getName() + " is private", Modifier.isPrivate(modifiers));
                isTrue(method.getName() + " is no public name", !names.contains(method.getName()));
            } else {
                isTrue(method.getName() + " is of an object", !Modifier.isStatic(modifiers));
            }
        }
        for (Class<?> inner : PageRows.class.getDeclaredClasses()) {
            for (Method method : inner.getDeclaredMethods()) {
                isTrue(method.getName() + " is no public name", !names.contains(method.getName()));
            }
        }
    }

    private static String written(Method method) {
        StringBuilder text = new StringBuilder();
        text.append(method.getReturnType().getSimpleName()).append(' ').append(method.getName());
        String parameters = Arrays.toString(Arrays.stream(method.getParameterTypes())
                .map(Class::getSimpleName).toArray());
        text.append('(').append(parameters, 1, parameters.length() - 1).append(')');
        for (Class<?> thrown : method.getExceptionTypes()) {
            text.append(' ').append(thrown.getSimpleName());
        }
        return text.toString();
    }

    private static void constructorIsThatOfTheDocument() {
        Constructor<?>[] constructors = PageRows.class.getDeclaredConstructors();
        due.same("constructors", constructors.length, 1);
        isTrue("constructor is public", Modifier.isPublic(constructors[0].getModifiers()));
        isTrue("constructor takes two ints", Arrays.equals(constructors[0].getParameterTypes(),
                new Class<?>[] {int.class, int.class}));
        due.same("constructor throws", constructors[0].getExceptionTypes().length, 0);
    }

    private static void constantsAreThoseOfTheDocument() {
        due.same("NONE", PageRows.NONE, -1);
        for (Field field : PageRows.class.getDeclaredFields()) {
            int modifiers = field.getModifiers();
            boolean constant = field.getName().equals("NONE");
            isTrue(field.getName() + " is seen as it should be",
                    constant ? Modifier.isPublic(modifiers) : Modifier.isPrivate(modifiers));
            if (constant) {
                isTrue("NONE is static", Modifier.isStatic(modifiers));
                isTrue("NONE is an int", field.getType() == int.class);
            }
        }
    }

    /** Static fields that are no constants would be shared by objects. */
    private static void staticFieldsAreConstants() {
        finalIfStatic(PageRows.class);
        for (Class<?> inner : PageRows.class.getDeclaredClasses()) {
            finalIfStatic(inner);
        }
    }

    private static void finalIfStatic(Class<?> type) {
        for (Field field : type.getDeclaredFields()) {
            int modifiers = field.getModifiers();
            if (Modifier.isStatic(modifiers)) {
                String name = type.getSimpleName() + "." + field.getName();
                isTrue(name + " is final", Modifier.isFinal(modifiers));
                isTrue(name + " is no array", !field.getType().isArray());
            }
        }
    }

    private static void innerClassesAreHidden() {
        for (Class<?> inner : PageRows.class.getDeclaredClasses()) {
            int modifiers = inner.getModifiers();
            isTrue(inner.getName() + " is static", Modifier.isStatic(modifiers));
            isTrue(inner.getName() + " is not public or protected",
                    !Modifier.isPublic(modifiers) && !Modifier.isProtected(modifiers));
        }
    }

    private static void sourceKeepsToTheLanguage() throws IOException {
        String source = Files.readString(Path.of("src/main/java/PageRows.java"));
        String[] barred = {"package ", "->", "::", "finally", "synchronized", "assert ", "Exact(",
            "static {", "getMessage", "hashCode"};
        for (String text : barred) {
            isTrue("no '" + text + "' in the source", !source.contains(text));
        }
        isTrue("characters 0 to 255 alone", source.chars().allMatch(c -> c <= 255));
    }
}
