import java.lang.reflect.InvocationTargetException;
import java.lang.reflect.Method;
import java.util.HashMap;
import java.util.Map;

/** A call of the face, told as a text like "half(3, 4)", read once and made on any object. */
final class Call {
    private static final Map<String, Call> READ = new HashMap<>();

    final String text;
    final String name;
    private final Method method;
    private final Object[] given;

    private Call(String text) {
        this.text = text;
        int open = text.indexOf('(');
        name = text.substring(0, open);
        String inside = text.substring(open + 1, text.length() - 1).trim();
        String[] words = inside.isEmpty() ? new String[0] : inside.split(", *");
        given = new Object[words.length];
        for (int k = 0; k < words.length; k++) {
            boolean truth = words[k].equals("true") || words[k].equals("false");
            given[k] = truth ? (Object) Boolean.valueOf(words[k]) : (Object) Integer.valueOf(words[k]);
        }
        method = named(name);
    }

    private static Method named(String name) {
        for (Method method : RhombInflator.class.getMethods()) {
            if (method.getName().equals(name)) {
                return method;
            }
        }
        throw new IllegalArgumentException("no call is named " + name);
    }

    static Call of(String text) {
        return READ.computeIfAbsent(text, Call::new);
    }

    /** Five ints that feed twenty bytes of a text, from a place on; behind its end there are question marks. */
    static Call feeding(String text, int from) {
        StringBuilder call = new StringBuilder("feed(");
        for (int k = 0; k < 5; k++) {
            int four = 0;
            for (int n = 0; n < 4; n++) {
                int at = from + 4 * k + n;
                four = four << 8 | (at < text.length() ? text.charAt(at) : '?');
            }
            call.append(k == 0 ? "" : ", ").append(four);
        }
        return of(call.append(')').toString());
    }

    /** The answer; what the class throws is a fault of its own, which ends the test. */
    long on(RhombInflator object) {
        try {
            return ((Number) method.invoke(object, given)).longValue();
        } catch (InvocationTargetException thrown) {
            throw new IllegalStateException(text + " has thrown", thrown.getCause());
        } catch (IllegalAccessException thrown) {
            throw new IllegalStateException(text + " can't be called", thrown);
        }
    }
}
