import java.lang.reflect.Method;
import java.util.HashMap;
import java.util.Map;

/** Calls by name, so that the same run of calls can be played on the program and on the model. */
final class Player {
    private static final Map<Class<?>, Map<String, Method>> METHODS = new HashMap<>();

    private final Object object;
    private final Map<String, Method> methods;
    private int calls;

    Player(Object object) {
        this.object = object;
        methods = METHODS.computeIfAbsent(object.getClass(), Player::methodsOf);
    }

    private static Map<String, Method> methodsOf(Class<?> c) {
        Map<String, Method> all = new HashMap<>();
        for (Method m : c.getDeclaredMethods()) {
            all.put(m.getName(), m);
        }
        return all;
    }

    /** Beyond 512 calls of one object nothing is promised. */
    int call(String name, int... numbers) {
        calls++;
        if (calls > 512) {
            throw new IllegalStateException("too many calls");
        }
        Object[] arguments = new Object[numbers.length];
        for (int i = 0; i < numbers.length; i++) {
            arguments[i] = numbers[i];
        }
        try {
            return (Integer) methods.get(name).invoke(object, arguments);
        } catch (ReflectiveOperationException e) {
            throw new IllegalStateException(name + " threw", e);
        }
    }

    void feed(String text) {
        for (int i = 0; i < text.length(); i++) {
            call("feed", text.charAt(i));
        }
    }

    /** Calls parted by blanks, as in "tape:w1;r0,0,1; way row:0,2,40 go". */
    void play(String script) {
        for (String told : script.trim().split("\\s+")) {
            int colon = told.indexOf(':');
            String name = colon < 0 ? told : told.substring(0, colon);
            String rest = colon < 0 ? "" : told.substring(colon + 1);
            if (name.equals("tape")) {
                feed(rest);
            } else if (!name.isEmpty()) {
                call(name, numbers(rest));
            }
        }
    }

    private static int[] numbers(String told) {
        if (told.isEmpty()) {
            return new int[0];
        }
        String[] parts = told.split(",");
        int[] all = new int[parts.length];
        for (int i = 0; i < parts.length; i++) {
            all[i] = Integer.parseInt(parts[i]);
        }
        return all;
    }
}
