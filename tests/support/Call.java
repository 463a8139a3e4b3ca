import java.lang.reflect.InvocationTargetException;
import java.lang.reflect.Method;
import java.lang.reflect.Modifier;
import java.util.Arrays;
import java.util.HashMap;
import java.util.Map;
import java.util.NoSuchElementException;

/** One call of the face as data, to be made of any HissHorn or Model. */
public record Call(String name, Object... arguments) {
    /** What a call answers that throws what the document names. */
    public static final long THROWS = Long.MIN_VALUE;
    private static final Map<String, Method> FACE = open(HissHorn.class);
    private static final Map<String, Method> NAIVE = open(Model.class);

    private static Map<String, Method> open(Class<?> type) {
        Map<String, Method> methods = new HashMap<>();
        for (Method method : type.getDeclaredMethods()) {
            if (Modifier.isPublic(method.getModifiers())) methods.put(method.getName(), method);
        }
        return methods;
    }

    public long of(HissHorn horn) {
        return answer(FACE.get(name), horn);
    }

    public long of(Model model) {
        return answer(NAIVE.get(name), model);
    }

    /** Only worth() may throw, and only what the document names. */
    private long answer(Method method, Object object) {
        try {
            Object answer = method.invoke(object, arguments);
            return answer instanceof Boolean truth ? (truth ? 1 : 0) : (Integer) answer;
        } catch (InvocationTargetException thrown) {
            if (name.equals("worth") && thrown.getCause().getClass() == NoSuchElementException.class) {
                return THROWS;
            }
            throw new IllegalStateException(toString(), thrown.getCause());
        } catch (IllegalAccessException never) {
            throw new IllegalStateException(never);
        }
    }

    /** The same call with another argument in one place. */
    public Call with(int place, Object argument) {
        Object[] others = arguments.clone();
        others[place] = argument;
        return new Call(name, others);
    }

    @Override
    public String toString() {
        return name + Arrays.toString(arguments).replace('[', '(').replace(']', ')');
    }
}
