import java.lang.reflect.InvocationTargetException;
import java.lang.reflect.Method;
import java.util.ArrayList;
import java.util.HashMap;
import java.util.List;
import java.util.Map;

/**
 * A run of calls on a new TreeComparer, each told as text, such as "add(0, 0, 1, 3, 7)", with the answer
 * that is due. A refused call is also replayed to see that it changed nothing.
 */
final class Run {
    static final String NOTHING = "nothing";
    static final String INDEX = "throws.IndexOutOfBoundsException";
    static final String ARGUMENT = "throws.IllegalArgumentException";
    static final String STATE = "throws.IllegalStateException";

    /** What an object answers to more calls is free, so no test may ask it. */
    static final int MOST_CALLS = 512;

    private static final Map<String, Method> METHODS = new HashMap<>();
    private static int asked = 0;
    private static int wrong = 0;

    private final String about;
    private final TreeComparer comparer = new TreeComparer();
    private final List<String> changes = new ArrayList<>();
    private int calls = 0;

    Run(String about) {
        this.about = about;
    }

    /** Makes changes whose answers do not matter, but that they are not refused. */
    Run after(String... changing) {
        for (String call : changing) {
            String answer = make(call);
            compare(about, call + " is refused", "" + answer.startsWith("throws."), "false");
            changes.add(call);
        }
        return this;
    }

    Run due(String call, Object due) {
        String answer = make(call);
        compare(about, call, answer, String.valueOf(due));
        if (answer.startsWith("throws.")) {
            compare(about, "what is left after " + call, Snapshot.after(changes, call), Snapshot.after(changes));
        } else if (isChange(call)) {
            changes.add(call);
        }
        return this;
    }

    private String make(String call) {
        calls++;
        if (calls > MOST_CALLS) {
            throw new IllegalStateException(about + " makes more calls than an object answers");
        }
        return answerOf(comparer, call);
    }

    /** The answer of a new object to a call after some others. */
    static String answerAfter(String[] before, String call) {
        TreeComparer fresh = new TreeComparer();
        for (String earlier : before) {
            answerOf(fresh, earlier);
        }
        return answerOf(fresh, call);
    }

    private static boolean isChange(String call) {
        return call.startsWith("add") || call.startsWith("set") || call.startsWith("clear") || call.startsWith("swap");
    }

    static void compare(String about, String call, String answer, String due) {
        asked++;
        if (!answer.equals(due)) {
            wrong++;
            System.out.println(about + ": " + call + " answered " + answer + ", due is " + due);
        }
    }

    /** Ends the test: exit code 1 if an answer was wrong or nothing was asked. */
    static void end(String test) {
        System.out.println(test + ": " + asked + " answers, " + wrong + " wrong");
        if (wrong != 0 || asked == 0) {
            System.exit(1);
        }
    }

    static String answerOf(TreeComparer comparer, String call) {
        int open = call.indexOf('(');
        String inside = call.substring(open + 1, call.length() - 1).trim();
        String[] texts = inside.isEmpty() ? new String[0] : inside.split(",");
        Object[] arguments = new Object[texts.length];
        for (int i = 0; i < texts.length; i++) {
            arguments[i] = Integer.valueOf(texts[i].trim());
        }
        Method method = methodNamed(call.substring(0, open));
        try {
            Object answer = method.invoke(comparer, arguments);
            return method.getReturnType() == void.class ? NOTHING : String.valueOf(answer);
        } catch (InvocationTargetException e) {
            return "throws." + e.getCause().getClass().getSimpleName();
        } catch (IllegalAccessException e) {
            throw new IllegalStateException(e);
        }
    }

    private static Method methodNamed(String name) {
        if (METHODS.isEmpty()) {
            for (Method method : TreeComparer.class.getMethods()) {
                METHODS.put(method.getName(), method);
            }
        }
        if (!METHODS.containsKey(name)) {
            throw new IllegalArgumentException("no method " + name);
        }
        return METHODS.get(name);
    }
}
