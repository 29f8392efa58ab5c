import java.lang.reflect.Constructor;
import java.lang.reflect.Field;
import java.lang.reflect.Method;
import java.lang.reflect.Modifier;
import java.util.Arrays;
import java.util.TreeSet;
import java.util.stream.Collectors;

/** The public face of the document, and nothing beside it (rule 1 of LANGUAGE.md). */
final class FaceTest {
    private static final String[] METHODS = {
        "int unit(int) IllegalArgumentException IllegalStateException",
        "int clear()",
        "int source(int,int) IllegalArgumentException IllegalStateException",
        "int claim() IllegalStateException",
        "boolean rests(int,int,boolean) NoSuchElementException",
        "int restsOn(int,int) NoSuchElementException",
        "int ring(int) NoSuchElementException",
        "boolean lift(int,int) NoSuchElementException",
        "int withdraw(int,int) NoSuchElementException IllegalArgumentException",
        "int opinion(int,int,int,int,int)"
            + " NoSuchElementException IllegalArgumentException IllegalStateException",
        "int rule(int,int) NoSuchElementException IllegalArgumentException",
        "int agreed(int,int) NoSuchElementException IllegalArgumentException",
        "int dissent(int,int,int) NoSuchElementException IllegalArgumentException",
        "boolean held(int,int) NoSuchElementException IllegalArgumentException",
        "int opened(int,int,int) NoSuchElementException IllegalArgumentException",
        "int quote(int,int) NoSuchElementException",
        "int form(int) NoSuchElementException",
        "int cite(int,int,int) NoSuchElementException",
        "int count(int) IllegalArgumentException",
    };

    public static void main(String[] args) {
        classIsPublicAndFinal();
        methodsAreThoseOfTheDocument();
        constantsAreThoseOfTheDocument();
        constructorIsPublic();
        nestedClassesAreStatic();
        Due.end();
    }

    private static void classIsPublicAndFinal() {
        int modifiers = ClaimSources.class.getModifiers();
        Due.due("public", Modifier.isPublic(modifiers), true);
        Due.due("final", Modifier.isFinal(modifiers), true);
    }

    private static void methodsAreThoseOfTheDocument() {
        TreeSet<String> shown = new TreeSet<>();
        TreeSet<String> names = new TreeSet<>();
        for (Method method : ClaimSources.class.getDeclaredMethods()) {
            if (!Modifier.isPrivate(method.getModifiers())) {
                Due.due(method.getName() + " is public",
                        Modifier.isPublic(method.getModifiers()), true);
                shown.add(describe(method));
                names.add(method.getName());
            }
        }
        Due.due("the methods", shown.toString(), new TreeSet<>(Arrays.asList(METHODS)).toString());
        for (Method method : ClaimSources.class.getDeclaredMethods()) {
            if (Modifier.isPrivate(method.getModifiers())) {
                Due.due("a private " + method.getName(), names.contains(method.getName()), false);
            }
        }
    }

    private static String describe(Method method) {
        String parameters = Arrays.stream(method.getParameterTypes())
                .map(Class::getSimpleName).collect(Collectors.joining(",", "(", ")"));
        String thrown = Arrays.stream(method.getExceptionTypes())
                .map(type -> " " + type.getSimpleName()).collect(Collectors.joining());
        return method.getReturnType().getSimpleName() + " " + method.getName() + parameters + thrown;
    }

    private static void constantsAreThoseOfTheDocument() {
        Due.due("NONE", ClaimSources.NONE, -1);
        Due.due("TIE", ClaimSources.TIE, -2);
        TreeSet<String> shown = new TreeSet<>();
        for (Field field : ClaimSources.class.getDeclaredFields()) {
            if (!Modifier.isPrivate(field.getModifiers())) {
                shown.add(Modifier.toString(field.getModifiers()) + " " + field.getName());
            }
        }
        Due.due("the fields", shown.toString(),
                "[public static final NONE, public static final TIE]");
    }

    private static void constructorIsPublic() {
        Constructor<?>[] constructors = ClaimSources.class.getDeclaredConstructors();
        Due.due("constructors", constructors.length, 1);
        Due.due("its parameters", constructors[0].getParameterCount(), 0);
        Due.due("it is public", Modifier.isPublic(constructors[0].getModifiers()), true);
    }

    private static void nestedClassesAreStatic() {
        for (Class<?> nested : ClaimSources.class.getDeclaredClasses()) {
            int modifiers = nested.getModifiers();
            Due.due(nested + " is static", Modifier.isStatic(modifiers), true);
            Due.due(nested + " is open",
                    Modifier.isPublic(modifiers) || Modifier.isProtected(modifiers), false);
        }
    }
}
