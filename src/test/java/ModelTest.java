import java.lang.reflect.InvocationTargetException;
import java.lang.reflect.Method;
import java.lang.reflect.Modifier;
import java.util.ArrayList;
import java.util.Comparator;
import java.util.List;
import java.util.TreeMap;

/**
 * Long runs of calls, the same in every run of the test, to EvenstartGames and to Model: each answer, and each
 * exception's very class, must be the same. The runs reach states that nobody would write down by hand. Some runs are
 * wide, with as many athletes, classes and events as there may be; in some it is looked at whether calls that throw,
 * or only ask, leave all as it was.
 */
public final class ModelTest {
    private static final int RUNS = 4000;
    private static final int CALLS = 512;
    private static final int LOOKED_INTO = 80;
    private static final int[] WILD = {-1, -2, Integer.MIN_VALUE, Integer.MAX_VALUE, 32, 100000, 501, 101, 16, 8, 6, 5};

    /** The games are peopled first, or most calls would find nobody. */
    private static final String[] FIRST = names("kind 4, classifier 4, athlete 8, body 16, show 3, test 30, event 2, "
            + "factor 2, enter 40, begin 4, protest 5, watch 1, result 12");

    private static final String[] FIRST_OF_WIDE = names("kind 9, classifier 8, athlete 17, body 24, show 3, test 60, "
            + "event 9, factor 4, enter 120, begin 8, protest 5, watch 1, result 40");

    private static final String[] LATER = names("athlete 1, body 2, show 1, found 1, classifier 1, kind 1, belongs 1, "
            + "test 3, status 1, classOf 1, watch 4, protest 2, money 1, border 1, year 1, next 1, until 2, event 1, "
            + "factor 1, enter 12, begin 3, result 12, fell 1, time 2, inClass 1, close 1, at 2, place 3, slot 3, "
            + "record 2, floor 4, swap 6, onFloor 1, points 2, checksum 2, fallenShare 1, meanLack 1, isSound 1");

    private final List<Method> calls = new ArrayList<>();
    private final List<Method> modelCalls = new ArrayList<>();
    private final TreeMap<String, Integer> answers = new TreeMap<>();
    private long seed = 20261120;
    private boolean wide;

    public static void main(String[] args) throws ReflectiveOperationException {
        new ModelTest().compare();
    }

    /** Names, each as often as its number says. */
    private static String[] names(String text) {
        List<String> names = new ArrayList<>();
        for (String part : text.split(", ")) {
            String[] nameAndNumber = part.split(" ");
            names.addAll(java.util.Collections.nCopies(Integer.parseInt(nameAndNumber[1]), nameAndNumber[0]));
        }
        return names.toArray(new String[0]);
    }

    private ModelTest() throws NoSuchMethodException {
        for (Method method : EvenstartGames.class.getDeclaredMethods()) {
            if (Modifier.isPublic(method.getModifiers())) {
                calls.add(method);
            }
        }
        // the machine tells methods in no certain order
        calls.sort(Comparator.comparing(Method::getName));
        for (Method method : calls) {
            modelCalls.add(Model.class.getDeclaredMethod(method.getName(), method.getParameterTypes()));
        }
    }

    private void compare() throws ReflectiveOperationException {
        int wrong = 0;
        for (int run = 0; run < RUNS && wrong < 10; run++) {
            if (!runIsAlike(run)) {
                wrong++;
            }
        }
        System.out.println(answers);
        System.out.println(RUNS + " runs, " + wrong + " unlike");
        if (wrong != 0) {
            System.exit(1);
        }
    }

    private boolean runIsAlike(int run) throws ReflectiveOperationException {
        EvenstartGames games = new EvenstartGames();
        Model model = new Model();
        StringBuilder told = new StringBuilder();
        wide = run % 4 == 1;
        String[] first = wide ? FIRST_OF_WIDE : FIRST;
        for (int i = 0; i < CALLS; i++) {
            int which = numberOf(i < first.length ? first[i] : LATER[any(LATER.length)]);
            String name = calls.get(which).getName();
            Object[] numbers = numbersFor(calls.get(which), model);
            String before = run < LOOKED_INTO ? Inside.of(games) : "";
            String got = answer(calls.get(which), games, numbers);
            String due = answer(modelCalls.get(which), model, numbers);
            told.append(name).append(java.util.Arrays.toString(numbers)).append(" = ").append(got).append('\n');
            count(name, got);
            boolean changed = run < LOOKED_INTO && Script.mustLeaveAll(name, due) && !before.equals(Inside.of(games));
            if (!got.equals(due) || changed) {
                System.out.println(told + "run " + run + ": due is " + due + (changed ? " without a change" : ""));
                return false;
            }
        }
        return true;
    }

    private int numberOf(String name) {
        for (int i = 0; i < calls.size(); i++) {
            if (calls.get(i).getName().equals(name)) {
                return i;
            }
        }
        throw new IllegalStateException(name);
    }

    private void count(String name, String answer) {
        String kind = answer.startsWith("throws") ? name + " throws" : name + " answers";
        answers.merge(kind, 1, Integer::sum);
    }

    private int any(int bound) {
        seed = seed * 6364136223846793005L + 1442695040888963407L;
        return (int) ((seed >>> 33) % bound);
    }

    private int oneOf(int... numbers) {
        return numbers[any(numbers.length)];
    }

    /** Mostly numbers that make sense for the call, now and then one that may not. */
    private Object[] numbersFor(Method call, Model model) {
        Object[] numbers = new Object[call.getParameterCount()];
        for (int i = 0; i < numbers.length; i++) {
            numbers[i] = any(100) == 0 ? WILD[any(WILD.length)] : sensible(call.getName(), i);
            if (i > 0 && any(3) != 0) {
                numbers[i] = fitting(call.getName(), i, (Integer) numbers[0], (Integer) numbers[i], model);
            }
        }
        return numbers;
    }

    /** Numbers that the model says to have an answer behind the first one: by chance alone few calls would have one. */
    private int fitting(String name, int index, int first, int otherwise, Model model) {
        switch (name + " " + index) {
            case "time 1", "place 1", "inClass 1", "fell 1":
                return oneOfBits(model.withResult(first), otherwise);
            case "result 1":
                return oneOfBits(model.awaited(first), otherwise);
            case "floor 1":
                return someOf(model.withClass(first));
            case "swap 1":
                return oneOfBits(model.standing(first), otherwise);
            case "swap 2":
                return oneOfBits(model.withClass(first) & ~model.standing(first), otherwise);
            default:
                return otherwise;
        }
    }

    private int oneOfBits(int bits, int otherwise) {
        int number = bits == 0 ? otherwise : any(32);
        while (bits != 0 && (bits >>> number & 1) == 0) {
            number = any(32);
        }
        return number;
    }

    private int someOf(int bits) {
        return bits & any(1 << 16) & (any(2) == 0 ? any(1 << 16) : -1);
    }

    private int sensible(String name, int index) {
        switch (name) {
            case "athlete", "money", "onFloor", "points":
                return any(3);
            case "classifier":
                return any(4) == 0 ? any(6) : 3 + any(3);
            case "body", "show":
                return index == 0 ? someAthlete() : index == 1 ? oneOf(0, 0, 4, 4, any(5)) : 40 + any(50);
            case "found":
                return index == 0 ? someAthlete() : any(5);
            case "kind":
                return index == 0 ? oneOf(0, 4) : index == 1 ? 1 + any(30) : index == 2 ? any(30) : 80 + any(300);
            case "border":
                return index == 0 ? someKind() : index == 1 ? any(50) : 60 + any(200);
            case "test":
                return index == 0 ? someAthlete() : any(wide ? 8 : 4);
            case "protest":
                return index == 0 ? any(6) : someAthlete();
            case "event":
                return wide ? oneOf(255, 255, 1 + any(255)) : oneOf(7, 15, 15, 1 + any(15));
            case "factor":
                return index == 0 ? someEvent() : index == 1 ? someKind() : 49 + any(53);
            case "result":
                return index == 0 ? someEvent() : index == 1 ? someAthlete() : index == 2 ? 1 + any(8) : 3 + any(12);
            case "slot":
                return index == 0 ? someEvent() : index == 1 ? 1 + any(6) : any(4);
            case "at":
                return index == 0 ? someEvent() : any(4);
            case "begin", "close":
                return someEvent();
            case "enter", "fell", "time", "inClass", "place":
                return index == 0 ? someEvent() : someAthlete();
            case "floor":
                return index == 0 ? any(3) : someFloor();
            case "swap":
                return index == 0 ? any(3) : someAthlete();
            case "record":
                return someKind();
            default:
                return someAthlete();
        }
    }

    private int someAthlete() {
        return any(wide ? 16 : 9);
    }

    private int someKind() {
        return any(wide ? 8 : 4);
    }

    private int someEvent() {
        return any(wide ? 8 : 4);
    }

    /** The lands of athletes are any, so such a floor of several is seldom right. */
    private int someFloor() {
        int bits = 0;
        int many = any(4);
        for (int i = 0; i < many; i++) {
            bits |= 1 << someAthlete();
        }
        return bits;
    }

    private static String answer(Method call, Object target, Object[] numbers) throws IllegalAccessException {
        try {
            return String.valueOf(call.invoke(target, numbers));
        } catch (InvocationTargetException e) {
            Throwable cause = e.getCause();
            return "throws " + (target instanceof Model ? cause.getClass().getSimpleName() : Script.thrown(cause));
        }
    }
}
