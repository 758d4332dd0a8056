import java.lang.reflect.InvocationTargetException;
import java.lang.reflect.Method;
import java.util.Set;

/**
 * Runs of calls written as the document writes its examples: "athlete(0) = 0; status(0) = -; next() = throws X".
 * The calls of a run go to one new object. Beside each answer it is looked at whether the object is sound,
 * and whether a call that only asks, or that throws, has left everything as it was. A line after # is a comment.
 */
final class Script {
    private static final Set<String> ASKING = Set.of("found", "belongs", "status", "classOf", "money", "year", "until",
            "fell", "time", "inClass", "at", "place", "slot", "record", "onFloor", "points", "checksum", "fallenShare",
            "meanLack", "isSound");
    private static final String THROWS = "throws ";
    /** What later calls answer is free. */
    private static final int MOST_CALLS = 512;

    private static int wrong;
    private static int right;

    private final String title;
    private final EvenstartGames games = new EvenstartGames();
    private int calls;

    private Script(String title) {
        this.title = title;
    }

    /** Runs the calls, and tells whether there was one. */
    static boolean run(String title, String calls) {
        Script script = new Script(title);
        int before = right + wrong;
        for (String call : calls.replaceAll("#[^\n]*", "").split(";")) {
            if (!call.isBlank()) {
                script.check(call.trim());
            }
        }
        return right + wrong > before;
    }

    /** Tells how it went, and ends the program with 1 if an answer was wrong. */
    static void end() {
        System.out.println(right + " calls as due, " + wrong + " not");
        if (wrong != 0 || right == 0) {
            System.exit(1);
        }
    }

    private void check(String statement) {
        int open = statement.indexOf('(');
        int shut = statement.indexOf(')');
        int equal = statement.indexOf('=', shut);
        if (open < 0 || shut < open || equal < 0) {
            fail(statement, "not a call with an answer");
            return;
        }
        String name = statement.substring(0, open).trim();
        String due = statement.substring(equal + 1).trim().replaceAll("\\s+", " ");
        String before = Inside.of(games);
        calls += 2;
        String got = answer(name, numbers(statement.substring(open + 1, shut)));
        if (calls > MOST_CALLS) {
            fail(statement, got + " but, with isSound behind each call, more than 512 calls went to the object");
        } else if (!got.equals(due)) {
            fail(statement, got);
        } else if (mustLeaveAll(name, due) && !before.equals(Inside.of(games))) {
            fail(statement, got + " but something changed");
        } else if (!games.isSound()) {
            fail(statement, got + " but the games are not sound");
        } else {
            right++;
        }
    }

    /** Whether a call with such an answer must leave all as it was: it only asks, or throws. */
    static boolean mustLeaveAll(String name, String answer) {
        return ASKING.contains(name) || answer.startsWith(THROWS);
    }

    private void fail(String statement, String got) {
        wrong++;
        System.out.println(title + ": " + statement + ", answered " + got);
    }

    private static Object[] numbers(String text) {
        if (text.isBlank()) {
            return new Object[0];
        }
        String[] parts = text.split(",");
        Object[] numbers = new Object[parts.length];
        for (int i = 0; i < parts.length; i++) {
            numbers[i] = Integer.valueOf(parts[i].trim());
        }
        return numbers;
    }

    /**
     * The name of an exception, with a remark if a line of the library or the machine threw it, not a line of the
     * class: a list's get, for one, throws the very IndexOutOfBoundsException that the document names.
     */
    static String thrown(Throwable exception) {
        StackTraceElement[] trace = exception.getStackTrace();
        boolean own = trace.length > 0 && trace[0].getClassName().startsWith("EvenstartGames");
        return exception.getClass().getSimpleName() + (own ? "" : " from elsewhere");
    }

    private String answer(String name, Object[] numbers) {
        Class<?>[] types = new Class<?>[numbers.length];
        java.util.Arrays.fill(types, int.class);
        try {
            Method method = EvenstartGames.class.getMethod(name, types);
            return String.valueOf(method.invoke(games, numbers));
        } catch (InvocationTargetException e) {
            return THROWS + thrown(e.getCause());
        } catch (ReflectiveOperationException e) {
            return "no such call: " + e;
        }
    }
}
