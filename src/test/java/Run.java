import java.lang.reflect.InvocationTargetException;
import java.lang.reflect.Method;

/** One object, and calls on it written as texts ("pair(0, 7, false)"; MIN and MAX are the ends of the ints). */
final class Run {
    /** Nothing is promised of an object behind so many calls. */
    private static final int MOST_CALLS = 512;
    private static final Method[] FACE = ThreeTimes.class.getDeclaredMethods();

    private final Check check;
    private final ThreeTimes x = new ThreeTimes();
    private int calls = 0;

    Run(Check check) {
        this.check = check;
    }

    /** With the room of a text, and shelf 7, by which it came, empty again. */
    Run(Check check, String room) {
        this(check);
        String read = read(room);
        if (read.startsWith("-")) {
            throw new IllegalStateException(room + " answered " + read);
        }
        answer("keep(7, 0, 0)");
    }

    /** The answer as a text, or throws. and the exception's name. */
    String answer(String call) {
        calls++;
        if (calls > MOST_CALLS) {
            throw new IllegalStateException("nothing is promised of call " + calls + ", " + call);
        }
        int open = call.indexOf('(');
        String told = call.substring(open + 1, call.length() - 1);
        String[] arguments = told.isEmpty() ? new String[0] : told.split(", ");
        Method method = named(call.substring(0, open));
        if (method.getParameterCount() != arguments.length) {
            throw new IllegalStateException("not a call: " + call);
        }
        Object[] values = new Object[arguments.length];
        for (int i = 0; i < values.length; i++) {
            values[i] = method.getParameterTypes()[i] == boolean.class ? truth(arguments[i]) : number(arguments[i]);
        }
        try {
            return String.valueOf(method.invoke(x, values));
        } catch (InvocationTargetException e) {
            return "throws." + e.getCause().getClass().getSimpleName();
        } catch (IllegalAccessException e) {
            throw new IllegalStateException(call, e);
        }
    }

    private static Method named(String name) {
        for (Method method : FACE) {
            if (method.getName().equals(name)) {
                return method;
            }
        }
        throw new IllegalStateException("no call " + name);
    }

    private static Object truth(String told) {
        if (!told.equals("true") && !told.equals("false")) {
            throw new IllegalStateException("not a truth: " + told);
        }
        return told.equals("true");
    }

    private static Object number(String told) {
        if (told.equals("MIN")) {
            return Integer.MIN_VALUE;
        }
        return told.equals("MAX") ? (Object) Integer.MAX_VALUE : (Object) Integer.valueOf(told);
    }

    Run due(String call, long want) {
        check.due(call, answer(call), String.valueOf(want));
        return this;
    }

    Run due(String call, String want) {
        check.due(call, answer(call), want);
        return this;
    }

    /** The same answer is due for each of the values (told with blanks between) in place of # in the call. */
    Run each(String call, String values, long want) {
        for (String value : values.split(" ")) {
            due(call.replace("#", value), want);
        }
        return this;
    }

    /** What a text answers as a room, read by shelf 7. */
    String read(String text) {
        answer("row(7, 0, " + text.length() + ")");
        for (int i = 0; i < text.length(); i++) {
            answer("put(7, " + i + ", " + (int) text.charAt(i) + ")");
        }
        return answer("room(7)");
    }

    Run text(String text, long want) {
        check.due("room of \"" + text + "\"", read(text), String.valueOf(want));
        return this;
    }

    /** Shelf d gets a row of a sort with these elements. */
    Run fill(int d, int sort, int... elements) {
        answer("row(" + d + ", " + sort + ", " + elements.length + ")");
        for (int i = 0; i < elements.length; i++) {
            answer("put(" + d + ", " + i + ", " + elements[i] + ")");
        }
        return this;
    }

    /** The elements of the row on shelf d, all of them. */
    Run row(int d, int... want) {
        for (int i = 0; i < want.length; i++) {
            due("element(" + d + ", " + i + ")", want[i]);
        }
        return due("element(" + d + ", " + want.length + ")", "throws.IllegalStateException");
    }
}
