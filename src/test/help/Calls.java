import java.lang.reflect.InvocationTargetException;
import java.lang.reflect.Method;
import java.util.ArrayList;
import java.util.HashMap;
import java.util.List;
import java.util.Map;
import java.util.NoSuchElementException;

/** An object that is called by the names of its calls, for as many calls as the document allows. */
final class Calls {
    static final int MOST = 512;
    private static final Map<String, Method> FACE = new HashMap<>();

    static {
        for (Method m : LocksBySong.class.getMethods()) {
            if (m.getDeclaringClass() == LocksBySong.class) {
                FACE.put(m.getName(), m);
            }
        }
    }

    final LocksBySong x = new LocksBySong();
    private int many;

    int left() {
        return MOST - many;
    }

    /** Its answer (true is 1), or Model.THROWN for NoSuchElementException; nothing else may come. */
    long ask(String call, int... args) {
        if (left() == 0) {
            throw new IllegalStateException("an object is used for at most " + MOST + " calls");
        }
        many++;
        Object[] boxed = new Object[args.length];
        for (int i = 0; i < args.length; i++) {
            boxed[i] = args[i];
        }
        try {
            Object answer = FACE.get(call).invoke(x, boxed);
            return answer instanceof Boolean ? (Boolean) answer ? 1 : 0 : ((Number) answer).longValue();
        } catch (InvocationTargetException e) {
            if (e.getCause() instanceof NoSuchElementException) {
                return Model.THROWN;
            }
            throw new IllegalStateException(call + " threw", e.getCause());
        } catch (IllegalAccessException e) {
            throw new IllegalStateException(call + " is hidden", e);
        }
    }

    /** Puts a text behind what THE TEXT has. */
    void write(String text) {
        int had = (int) ask("count", 12);
        for (int i = 0; i < text.length(); i += 4) {
            ask("sign", four(text, i));
        }
        ask("end", had + text.length());
    }

    long told(String text, String call, int... args) {
        write(text);
        return ask(call, args);
    }

    List<Long> row() {
        List<Long> row = new ArrayList<>();
        long many = ask("count", 11);
        for (int i = 0; i < many; i++) {
            row.add(ask("row", i));
        }
        return row;
    }

    /** The four signs from there on, 0 for those behind the end. */
    static int four(String text, int from) {
        int v = 0;
        for (int k = from; k < from + 4; k++) {
            v = v << 8 | (k < text.length() ? text.charAt(k) : 0);
        }
        return v;
    }
}
