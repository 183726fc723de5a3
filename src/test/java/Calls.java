import java.lang.reflect.InvocationTargetException;
import java.lang.reflect.Method;
import java.util.ArrayList;
import java.util.List;

/** Calls written as text, such as "put(0, 1, -2)", made on a SaveRestore or on its model. */
final class Calls {
    private Calls() {
    }

    /** The answer as text; an exception's name behind "throws." where the call throws. */
    static String answer(Object machine, String call) {
        int open = call.indexOf('(');
        String name = call.substring(0, open);
        String inside = call.substring(open + 1, call.length() - 1).trim();
        String[] words = inside.isEmpty() ? new String[0] : inside.split("\\s*,\\s*");
        Object[] arguments = new Object[words.length];
        Class<?>[] types = new Class<?>[words.length];
        for (int k = 0; k < words.length; k++) {
            boolean isBoolean = words[k].equals("true") || words[k].equals("false");
            types[k] = isBoolean ? boolean.class : int.class;
            arguments[k] = isBoolean ? (Object) Boolean.valueOf(words[k]) : (Object) Integer.valueOf(words[k]);
        }
        return invoke(machine, name, types, arguments);
    }

    private static String invoke(Object machine, String name, Class<?>[] types, Object[] arguments) {
        try {
            Method method = machine.getClass().getDeclaredMethod(name, types);
            return String.valueOf(method.invoke(machine, arguments));
        } catch (InvocationTargetException e) {
            return "throws." + e.getCause().getClass().getSimpleName();
        } catch (ReflectiveOperationException e) {
            throw new IllegalArgumentException("no such call: " + name, e);
        }
    }

    /** Calls that tell all that can be seen, of the objects 0 .. objects - 1, without a change. */
    static List<String> look(int objects) {
        List<String> calls = new ArrayList<>();
        calls.add("used()");
        calls.add("deepest()");
        for (int what = 0; what < 10; what++) {
            calls.add("stateOf(" + what + ")");
        }
        for (int object = 0; object < objects; object++) {
            calls.add("old(" + object + ")");
            for (int i = 0; i < 8; i++) {
                calls.add("get(" + object + ", " + i + ")");
                calls.add("bytes(" + object + ", " + i + ", -1)");
            }
        }
        return calls;
    }
}
