import java.lang.reflect.Method;
import java.util.ArrayList;
import java.util.HashMap;
import java.util.List;
import java.util.Map;

/**
 * Calls that are written as texts, "hurt 2 0 4 9", so that one row of them can be made on several
 * houses or on the model. "tape some words" stands for as many feed() as the words need.
 */
final class Script {
    /** An object is used for so many calls at most; what later ones answer is free. */
    static final int MOST_CALLS = 512;

    private static final Map<String, Method> KNOWN = new HashMap<>();

    private Script() {
    }

    /** All calls, with those behind "tape" written out. */
    static List<String> calls(List<String> rows) {
        List<String> all = new ArrayList<>();
        for (String row : rows) {
            if (row.startsWith("tape ")) {
                String text = row.substring(5);
                for (int i = 0; i < text.length(); i += 8) {
                    all.add("feed " + Due.packed(text, i));
                }
            } else {
                all.add(row);
            }
        }
        return all;
    }

    static int[] answers(Object house, List<String> calls) {
        int[] answers = new int[calls.size()];
        for (int i = 0; i < answers.length; i++) {
            answers[i] = answer(house, calls.get(i));
        }
        return answers;
    }

    static int answer(Object house, String call) {
        String[] words = call.split(" ");
        Method m = method(house.getClass(), words[0], words.length - 1);
        Object[] args = new Object[words.length - 1];
        for (int i = 0; i < args.length; i++) {
            args[i] = argument(m.getParameterTypes()[i], words[i + 1]);
        }
        try {
            return (Integer) m.invoke(house, args);
        } catch (ReflectiveOperationException e) {
            throw new IllegalStateException(call, e.getCause());
        }
    }

    private static Object argument(Class<?> type, String word) {
        if (type == boolean.class) {
            return Boolean.valueOf(word);
        }
        return type == long.class ? (Object) Long.valueOf(word) : (Object) Integer.valueOf(word);
    }

    private static Method method(Class<?> c, String name, int parameters) {
        return KNOWN.computeIfAbsent(c.getName() + " " + name + " " + parameters, key -> {
            for (Method m : c.getDeclaredMethods()) {
                if (m.getName().equals(name) && m.getParameterCount() == parameters) {
                    return m;
                }
            }
            throw new IllegalStateException("no call " + key);
        });
    }
}
