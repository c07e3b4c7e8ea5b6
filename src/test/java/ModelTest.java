import java.lang.reflect.InvocationTargetException;
import java.lang.reflect.Method;
import java.util.ArrayList;
import java.util.Arrays;
import java.util.HashMap;
import java.util.List;
import java.util.Map;
import java.util.Random;
import java.util.Set;
import java.util.TreeSet;

/** All promises: runs of drawn calls, each answered by the program as by the model. */
public final class ModelTest {
    private static final int RUNS = 1500;
    /** What an object answers after its 512th call is free. */
    private static final int CALLS = 512;
    /** Each method with the codes (and NONE) that it may return; all must have come in the runs. */
    private static final String[] METHODS = {
        "addReplica -4 -2 -1", "drop -1", "setRate -2 -1", "stop -1", "jumpBack -2 -1", "tick -2", "replicas",
        "replica -2 -1", "length", "logged -2 -1", "position -1", "version -1", "value -6 -1", "missing -1",
        "answers -1", "open -4 -2 -1", "close -1", "move -1", "change -2 -1", "hand -2 -1", "sessions",
        "session -2 -1", "write -4 -2 -1", "read -6 -3 -1", "readAt -6 -3 -1", "latest -6 -2", "waitFor -6 -1",
        "bestReplica -6 -1", "keysAfter -2 -1", "catchUp -6", "append -4 -2", "clearText", "errorPosition -6",
        "execute -5", "undo -3", "save", "restore -3",
    };
    private static final Map<String, Set<Integer>> codesSeen = new HashMap<>();

    private final Random random;
    private final Map<String, Integer> weights = new HashMap<>();
    private final ReplicaSessions program = new ReplicaSessions();
    private final Model model = new Model();
    private final List<String> calls = new ArrayList<>();
    /** The rest of a command that is put into the buffer character by character. */
    private String typing = "";

    private ModelTest(long seed) {
        random = new Random(seed);
        for (String method : METHODS) {
            weights.put(nameOf(method), 1 + random.nextInt(6));
        }
        weights.put("write", random.nextInt(6) == 0 ? 400 : 15);
        weights.put("read", 15);
        weights.put("readAt", 12);
        weights.put("append", random.nextInt(3) == 0 ? 60 : 20);
        weights.put("clearText", random.nextInt(3));
        weights.put("open", random.nextInt(3) == 0 ? 12 : 3);
        for (String name : new String[] {"drop", "close", "restore", "undo"}) {
            weights.put(name, random.nextInt(3));
        }
    }

    public static void main(String[] args) {
        int wrong = 0;
        for (int run = 0; run < RUNS && wrong < 3; run++) {
            wrong += new ModelTest(run).isRight() ? 0 : 1;
        }
        System.out.println(RUNS + " runs of " + CALLS + " calls, " + wrong + " of them wrong");
        if (wrong != 0 || !isEachCodeSeen()) {
            System.exit(1);
        }
    }

    private static String nameOf(String method) {
        return method.split(" ")[0];
    }

    private static boolean isEachCodeSeen() {
        boolean all = true;
        for (String method : METHODS) {
            StringBuilder seen = new StringBuilder(nameOf(method));
            for (int code : codesSeen.getOrDefault(nameOf(method), Set.of())) {
                seen.append(' ').append(code);
            }
            if (!seen.toString().equals(method)) {
                System.out.println("due were the codes " + method + ", and the runs had " + seen);
                all = false;
            }
        }
        return all;
    }

    private boolean isRight() {
        for (int i = 0; i < CALLS; i++) {
            String name = drawName();
            if (!isRight(name, drawArguments(name))) {
                System.out.println(String.join("\n", calls));
                return false;
            }
        }
        return true;
    }

    private boolean isRight(String name, int[] arguments) {
        int got = call(program, name, arguments);
        int due = call(model, name, arguments);
        calls.add(name + Arrays.toString(arguments) + " answered " + got + (got == due ? "" : ", due is " + due));
        if (got < 0) {
            codesSeen.computeIfAbsent(name, any -> new TreeSet<>()).add(got);
        }
        if (name.equals("clearText") || name.equals("execute") && got >= 0) {
            typing = "";
        }
        return got == due;
    }

    private static int call(Object store, String name, int[] arguments) {
        for (Method method : store.getClass().getDeclaredMethods()) {
            if (method.getName().equals(name) && method.getParameterCount() == arguments.length) {
                Object[] values = Arrays.stream(arguments).boxed().toArray();
                if (name.equals("stop")) {
                    values[1] = arguments[1] == 1;
                }
                try {
                    return (int) method.invoke(store, values);
                } catch (IllegalAccessException | InvocationTargetException e) {
                    throw new IllegalStateException(name + Arrays.toString(arguments), e);
                }
            }
        }
        throw new IllegalStateException(name);
    }

    private String drawName() {
        // A text seldom ends where execute() is drawn; so it is mostly called where a command ends.
        if (typing.equals(";") && random.nextInt(6) == 0) {
            return "execute";
        }
        int left = random.nextInt(weights.values().stream().mapToInt(weight -> weight).sum());
        for (String method : METHODS) {
            left -= weights.get(nameOf(method));
            if (left < 0) {
                return nameOf(method);
            }
        }
        throw new IllegalStateException();
    }

    /** Mostly a number of the range, now and then one at its edges, beside it or far from it. */
    private int draw(int low, int high) {
        switch (random.nextInt(40)) {
            case 0: return low - 1;
            case 1: return high + 1;
            case 2: return low;
            case 3: return high;
            case 4: return random.nextBoolean() ? Integer.MIN_VALUE : Integer.MAX_VALUE;
            case 5: return random.nextInt();
            default: return low + random.nextInt(high - low + 1);
        }
    }

    private int drawPlace() {
        return random.nextInt(4) == 0 ? 9 : random.nextInt(20) == 0 ? draw(-8, 12) : draw(0, 4);
    }

    /** Mostly one of few, so that calls meet the same session. */
    private int drawSession() {
        return random.nextInt(5) == 0 ? draw(0, 7) : random.nextInt(3);
    }

    private int drawKey() {
        return random.nextInt(3) == 0 ? draw(0, 11) : random.nextInt(3);
    }

    /** The next character of drawn commands, now and then any. */
    private int drawCode() {
        if (random.nextInt(60) == 0) {
            return draw(33, 126);
        }
        if (typing.isEmpty()) {
            typing = drawCommand() + ";";
        }
        char next = typing.charAt(0);
        typing = typing.substring(1);
        return next;
    }

    private String drawCommand() {
        String digit = String.valueOf(random.nextInt(4));
        String key = String.valueOf(random.nextInt(13));
        switch (random.nextInt(7)) {
            case 0: return "w" + digit + ":" + key + "=" + random.nextInt(1001);
            case 1: return "t" + random.nextInt(random.nextInt(4) == 0 ? 120 : 6);
            case 2: return "m" + digit + ">" + "01234p5".charAt(random.nextInt(7));
            case 3: return "h" + digit + ">" + random.nextInt(4);
            case 4: return "j" + digit + "@" + random.nextInt(9);
            default: return "r" + digit + ":" + key;
        }
    }

    private int[] drawArguments(String name) {
        switch (name) {
            case "addReplica": return new int[] {draw(0, 9), random.nextBoolean() ? -6 : drawPlace()};
            case "drop": case "position": case "answers": return new int[] {drawPlace()};
            case "setRate": return new int[] {drawPlace(), draw(0, 9)};
            case "stop": return new int[] {drawPlace(), random.nextInt(3) / 2};
            case "jumpBack": return new int[] {drawPlace(), draw(0, 1 + Math.max(0, model.position(random.nextInt(5))))};
            case "tick": return new int[] {random.nextInt(4) == 0 ? draw(1, 99) : 1 + random.nextInt(3)};
            case "replica": return new int[] {drawPlace(), draw(0, 2)};
            case "logged": return new int[] {draw(1, Math.max(1, model.length())), draw(0, 2)};
            case "version": case "value": case "missing": return new int[] {drawPlace(), drawKey()};
            case "open": return new int[] {drawPlace(), draw(0, 15), draw(0, 20)};
            case "close": return new int[] {drawSession()};
            case "move": return new int[] {drawSession(), drawPlace()};
            case "change": return new int[] {drawSession(), draw(0, 15), draw(0, 20)};
            case "hand": return new int[] {drawSession(), drawSession()};
            case "session": return new int[] {drawSession(), draw(0, 8)};
            case "write": return new int[] {drawSession(), drawKey(), draw(0, 999)};
            case "read": case "bestReplica": return new int[] {drawSession(), drawKey()};
            case "readAt": case "waitFor": return new int[] {drawSession(), drawKey(), drawPlace()};
            case "latest": return new int[] {draw(0, 2)};
            case "keysAfter": return new int[] {drawSession(), drawPlace(), random.nextBoolean() ? draw(0, 99) : random.nextInt(6)};
            case "append": return new int[] {drawCode()};
            default: return new int[0];
        }
    }
}
