import java.lang.reflect.InvocationTargetException;
import java.lang.reflect.Method;

/**
 * A call as it is written, such as "pour(0, 1, 2, 0, 4)", that can be made on a BoxArchive and on a PlainArchive.
 * The answer is a number; a boolean counts 1 or 0.
 */
final class Call {
    final String text;
    private final Method ours;
    private final Method plain;
    private final Object[] args;

    Call(String text) {
        this.text = text;
        String name = text.substring(0, text.indexOf('('));
        String inside = text.substring(name.length() + 1, text.length() - 1);
        String[] words = inside.isEmpty() ? new String[0] : inside.split(", ");
        ours = named(BoxArchive.class, name, words.length);
        plain = named(PlainArchive.class, name, words.length);
        args = new Object[words.length];
        for (int i = 0; i < words.length; i++) {
            args[i] = argument(ours.getParameterTypes()[i], words[i]);
        }
    }

    private static Method named(Class<?> type, String name, int many) {
        for (Method m : type.getDeclaredMethods()) {
            if (m.getName().equals(name) && m.getParameterCount() == many) {
                return m;
            }
        }
        throw new IllegalArgumentException(type.getName() + " has no " + name + " of " + many);
    }

    private static Object argument(Class<?> type, String word) {
        if (type == boolean.class) {
            return Boolean.valueOf(word);
        }
        if (type == int.class) {
            return Integer.valueOf(word);
        }
        return Long.valueOf(word);
    }

    long on(BoxArchive x) {
        return asNumber(made(ours, x));
    }

    long on(PlainArchive y) {
        return asNumber(made(plain, y));
    }

    /** What it answers if its STATUS is not 0. */
    long refusal() {
        return ours.getReturnType() == boolean.class ? 0 : BoxArchive.NONE;
    }

    private Object made(Method method, Object archive) {
        try {
            return method.invoke(archive, args);
        } catch (InvocationTargetException e) {
            throw new IllegalStateException(text + " threw " + e.getCause(), e.getCause());
        } catch (IllegalAccessException e) {
            throw new IllegalStateException(e);
        }
    }

    private static long asNumber(Object answer) {
        if (answer instanceof Boolean truth) {
            return truth ? 1 : 0;
        }
        return ((Number) answer).longValue();
    }
}
