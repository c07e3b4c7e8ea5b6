import java.lang.reflect.InvocationTargetException;
import java.lang.reflect.Method;
import java.util.ArrayList;
import java.util.Arrays;
import java.util.Comparator;
import java.util.List;
import java.util.Map;
import java.util.function.Supplier;

/**
 * No call throws or fails to end, for any arguments in any state, and each answers with a number of
 * its range or a code that its promise lists. The calls also go on far beyond the 512th, where the
 * answers are free, but not whether there is one.
 */
public final class AnyCallTest {
    private static final Checks checks = new Checks();
    private static final int[] NUMBERS = {
        Integer.MIN_VALUE, Integer.MIN_VALUE + 1, -100, -7, -6, -5, -2, -1, 0, 1, 2, 3, 4, 5, 7, 8, 9, 10, 11, 12, 15,
        16, 20, 21, 33, 80, 99, 100, 126, 127, 200, 201, 999, 1000, Integer.MAX_VALUE - 1, Integer.MAX_VALUE,
    };
    /** Enough for arguments that are far from their ranges, at the edges, and right. */
    private static final int[] FEW_NUMBERS = {Integer.MIN_VALUE, -6, -1, 0, 2, 9, 12, Integer.MAX_VALUE};
    /** The greatest answer of each method, and the codes (and NONE) that it may return. */
    private static final Map<String, int[]> ANSWERS = Map.ofEntries(
        Map.entry("addReplica", new int[] {4, -1, -2, -4}), Map.entry("drop", new int[] {8, -1}),
        Map.entry("setRate", new int[] {9, -1, -2}), Map.entry("stop", new int[] {1, -1}),
        Map.entry("jumpBack", new int[] {200, -1, -2}), Map.entry("tick", new int[] {5, -2}),
        Map.entry("replicas", new int[] {31}), Map.entry("replica", new int[] {9, -1, -2}),
        Map.entry("length", new int[] {200}), Map.entry("logged", new int[] {999, -1, -2}),
        Map.entry("position", new int[] {200, -1}), Map.entry("version", new int[] {200, -1}),
        Map.entry("value", new int[] {999, -1, -6}), Map.entry("missing", new int[] {200, -1}),
        Map.entry("answers", new int[] {512, -1}), Map.entry("open", new int[] {7, -1, -2, -4}),
        Map.entry("close", new int[] {200, -1}), Map.entry("move", new int[] {9, -1}),
        Map.entry("change", new int[] {15, -1, -2}), Map.entry("hand", new int[] {200, -1, -2}),
        Map.entry("sessions", new int[] {255}), Map.entry("session", new int[] {512, -1, -2}),
        Map.entry("write", new int[] {200, -1, -2, -4}), Map.entry("read", new int[] {999, -1, -3, -6}),
        Map.entry("readAt", new int[] {999, -1, -3, -6}), Map.entry("latest", new int[] {200, -2, -6}),
        Map.entry("waitFor", new int[] {200, -1, -6}), Map.entry("bestReplica", new int[] {4, -1, -6}),
        Map.entry("keysAfter", new int[] {12, -1, -2}), Map.entry("catchUp", new int[] {200, -6}),
        Map.entry("append", new int[] {80, -2, -4}), Map.entry("clearText", new int[] {80}),
        Map.entry("errorPosition", new int[] {80, -6}), Map.entry("execute", new int[] {27, -5}),
        Map.entry("undo", new int[] {4, -3}), Map.entry("save", new int[] {200}),
        Map.entry("restore", new int[] {200, -3}));

    private static final List<Supplier<ReplicaSessions>> STORES =
        List.of(Stores::empty, Stores::small, Stores::usual, Stores::full);

    public static void main(String[] args) {
        List<Method> methods = new ArrayList<>();
        for (Method method : ReplicaSessions.class.getMethods()) {
            if (method.getDeclaringClass() == ReplicaSessions.class) {
                methods.add(method);
            }
        }
        methods.sort(Comparator.comparing(Method::getName));
        checks.holds("the table tells all methods", methods.size() == ANSWERS.size());
        for (Supplier<ReplicaSessions> store : STORES) {
            for (Method method : methods) {
                eachOnItsOwn(method, store);
            }
            oneBehindTheOther(methods, store.get());
        }
        checks.finish();
    }

    private static void eachOnItsOwn(Method method, Supplier<ReplicaSessions> store) {
        for (Object[] arguments : choices(method, FEW_NUMBERS)) {
            int got = call(store.get(), method, arguments);
            int[] answers = ANSWERS.getOrDefault(method.getName(), new int[] {-1});
            boolean isListed = got >= 0 && got <= answers[0]
                || Arrays.stream(answers).skip(1).anyMatch(code -> code == got);
            checks.holds(method.getName() + Arrays.toString(arguments) + " may not answer " + got, isListed);
        }
    }

    /** Some 570,000 calls on one object. */
    private static void oneBehindTheOther(List<Method> methods, ReplicaSessions store) {
        for (int round = 0; round < 2; round++) {
            for (Method method : methods) {
                for (Object[] arguments : choices(method, NUMBERS)) {
                    call(store, method, arguments);
                }
            }
        }
    }

    /** Each choice of numbers as arguments; true and false stand for even and odd ones. */
    private static List<Object[]> choices(Method method, int[] numbers) {
        List<Object[]> choices = new ArrayList<>();
        choices.add(new Object[method.getParameterCount()]);
        for (int place = 0; place < method.getParameterCount(); place++) {
            List<Object[]> longer = new ArrayList<>();
            for (Object[] choice : choices) {
                for (int number : numbers) {
                    Object[] next = choice.clone();
                    boolean isNumber = method.getParameterTypes()[place] == int.class;
                    next[place] = isNumber ? (Object) number : (Object) (number % 2 == 0);
                    longer.add(next);
                }
            }
            choices = longer;
        }
        return choices;
    }

    private static int call(ReplicaSessions store, Method method, Object[] arguments) {
        try {
            return (int) method.invoke(store, arguments);
        } catch (IllegalAccessException | InvocationTargetException e) {
            checks.holds(method.getName() + Arrays.toString(arguments) + " threw " + e.getCause(), false);
            return Integer.MIN_VALUE;
        }
    }
}
