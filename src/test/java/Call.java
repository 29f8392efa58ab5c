import java.lang.reflect.InvocationTargetException;
import java.lang.reflect.Method;
import java.util.Arrays;
import java.util.HashMap;
import java.util.Map;
import java.util.stream.Collectors;

/** A call of the face by its name, to be made on objects of ClaimSources and of Model. */
final class Call {
    private static final Map<String, Method> METHODS = new HashMap<>();

    private final String name;
    private final Object[] arguments;

    Call(String name, Object... arguments) {
        this.name = name;
        this.arguments = arguments;
    }

    Object[] arguments() {
        return arguments;
    }

    /** What the call answers; throws.IllegalStateException if it throws that. */
    String on(Object target) {
        try {
            return String.valueOf(method(target.getClass()).invoke(target, arguments));
        } catch (InvocationTargetException e) {
            return "throws." + e.getCause().getClass().getSimpleName();
        } catch (IllegalAccessException e) {
            throw new AssertionError(e);
        }
    }

    private Method method(Class<?> owner) {
        return METHODS.computeIfAbsent(owner.getName() + "." + name, key -> {
            Class<?>[] types = Arrays.stream(arguments)
                    .map(argument -> argument instanceof Boolean ? boolean.class : int.class)
                    .toArray(Class<?>[]::new);
            try {
                return owner.getDeclaredMethod(name, types);
            } catch (NoSuchMethodException e) {
                throw new AssertionError(e);
            }
        });
    }

    @Override
    public String toString() {
        return Arrays.stream(arguments).map(String::valueOf)
                .collect(Collectors.joining(", ", name + "(", ")"));
    }
}
