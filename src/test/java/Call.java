import java.lang.reflect.InvocationTargetException;
import java.lang.reflect.Method;
import java.lang.reflect.Modifier;
import java.util.Arrays;
import java.util.HashMap;
import java.util.List;
import java.util.Map;
import java.util.stream.Collectors;

/** One call of the face: its name, and what is told with it. */
record Call(String name, List<Object> told) {
    private static final List<String> TELLING = List.of("bring", "offer", "answer", "pack", "unpack", "seal", "open",
            "carry", "wipe", "smash", "check", "lose", "find", "certify");

    private static final Map<String, Method> FACE = new HashMap<>();

    static {
        for (Method method : Shredroll.class.getDeclaredMethods()) {
            if (Modifier.isPublic(method.getModifiers())) {
                FACE.put(method.getName(), method);
            }
        }
    }

    static Call of(String name, Object... told) {
        if (!FACE.containsKey(name)) {
            throw new IllegalStateException("the class has no call " + name);
        }
        return new Call(name, Arrays.asList(told));
    }

    boolean isTelling() {
        return TELLING.contains(name);
    }

    /** An Integer or a Boolean; or the class of what is thrown. */
    Object answerOf(Shredroll roll) {
        try {
            return FACE.get(name).invoke(roll, told.toArray());
        } catch (InvocationTargetException e) {
            return e.getCause().getClass();
        } catch (IllegalAccessException e) {
            throw new IllegalStateException(name + " can't be called", e);
        }
    }

    @Override
    public String toString() {
        return name + told.stream().map(String::valueOf).collect(Collectors.joining(", ", "(", ")"));
    }
}
