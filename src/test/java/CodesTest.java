import java.util.Arrays;
import java.util.List;
import java.util.function.Supplier;

/**
 * "Each method lists its error codes in the order in which they are checked; the first one that
 * applies is returned": each method is called with every choice of right and wrong arguments, where
 * the state too would refuse the call, and where it would not.
 */
public final class CodesTest {
    private static final Checks checks = new Checks();
    private static final int NO_CODE = 0;

    private record Argument(int right, int wrong, int code) {
    }

    private interface Call {
        int on(ReplicaSessions x, int[] arguments);
    }

    public static void main(String[] args) {
        replicas();
        places();
        sessions();
        writingAndReading();
        predictions();
        handsToTheSame();
        withoutArguments();
        checks.finish();
    }

    /** All promises list NO_SUCH ahead of BAD_VALUE, and both ahead of the others: the greater code is first. */
    private static void all(int promise, String name, Supplier<ReplicaSessions> store, int codeOfState,
            List<Argument> arguments, Call call) {
        for (int choice = 0; choice < 1 << arguments.size(); choice++) {
            int[] numbers = new int[arguments.size()];
            int due = codeOfState == NO_CODE ? Integer.MIN_VALUE : codeOfState;
            for (int i = 0; i < numbers.length; i++) {
                Argument argument = arguments.get(i);
                boolean isWrong = (choice >> i & 1) == 1;
                numbers[i] = isWrong ? argument.wrong() : argument.right();
                due = isWrong ? Math.max(due, argument.code()) : due;
            }
            String label = name + " with " + Arrays.toString(numbers);
            int got = call.on(store.get(), numbers);
            if (due == Integer.MIN_VALUE) {
                checks.holds("promise " + promise + ": " + label + " is right, not " + got, got >= 0 || got == -6);
            } else {
                checks.due(promise, label, got, due);
            }
        }
    }

    private static Argument noSuch(int right, int wrong) {
        return new Argument(right, wrong, -1);
    }

    private static Argument badValue(int right, int wrong) {
        return new Argument(right, wrong, -2);
    }

    private static void replicas() {
        for (int like : new int[] {-1, 5, 8, 10}) {
            List<Argument> arguments = List.of(badValue(9, 10), noSuch(-6, like));
            all(2, "addReplica where there is room", Stores::usual, NO_CODE, arguments,
                (x, a) -> x.addReplica(a[0], a[1]));
            all(2, "addReplica without room", Stores::full, -4, arguments, (x, a) -> x.addReplica(a[0], a[1]));
        }
        all(2, "addReplica without room", Stores::full, -4, List.of(badValue(0, -1), noSuch(4, 5)),
            (x, a) -> x.addReplica(a[0], a[1]));
        all(4, "setRate", Stores::usual, NO_CODE, List.of(noSuch(2, 3), badValue(9, 10)),
            (x, a) -> x.setRate(a[0], a[1]));
        all(4, "setRate", Stores::usual, NO_CODE, List.of(noSuch(0, -1), badValue(0, -1)),
            (x, a) -> x.setRate(a[0], a[1]));
        all(6, "jumpBack", Stores::usual, NO_CODE, List.of(noSuch(1, 3), badValue(0, 1)),
            (x, a) -> x.jumpBack(a[0], a[1]));
        all(6, "jumpBack", Stores::usual, NO_CODE, List.of(noSuch(0, 9), badValue(0, -1)),
            (x, a) -> x.jumpBack(a[0], a[1]));
        all(9, "replica", Stores::usual, NO_CODE, List.of(noSuch(2, 3), badValue(2, 3)),
            (x, a) -> x.replica(a[0], a[1]));
        all(9, "replica", Stores::usual, NO_CODE, List.of(noSuch(0, 9), badValue(0, -1)),
            (x, a) -> x.replica(a[0], a[1]));
    }

    private static void places() {
        all(11, "logged", Stores::usual, NO_CODE, List.of(noSuch(6, 7), badValue(2, 3)),
            (x, a) -> x.logged(a[0], a[1]));
        all(11, "logged", Stores::full, NO_CODE, List.of(noSuch(200, 201), badValue(0, -1)),
            (x, a) -> x.logged(a[0], a[1]));
        all(11, "logged", Stores::usual, NO_CODE, List.of(noSuch(1, 0), badValue(0, -1)),
            (x, a) -> x.logged(a[0], a[1]));
        List<Argument> arguments = List.of(noSuch(1, 3), noSuch(11, 12));
        all(13, "version", Stores::usual, NO_CODE, arguments, (x, a) -> x.version(a[0], a[1]));
        all(14, "value where there is none", Stores::usual, -6, arguments, (x, a) -> x.value(a[0], a[1]));
        all(15, "missing", Stores::usual, NO_CODE, arguments, (x, a) -> x.missing(a[0], a[1]));
    }

    private static void sessions() {
        List<Argument> arguments = List.of(noSuch(9, 8), badValue(15, 16), badValue(20, 21));
        all(17, "open where there is room", Stores::usual, NO_CODE, arguments, (x, a) -> x.open(a[0], a[1], a[2]));
        all(17, "open without room", Stores::full, -4, arguments, (x, a) -> x.open(a[0], a[1], a[2]));
        arguments = List.of(noSuch(4, 5), badValue(0, -1), badValue(0, -1));
        all(17, "open without room", Stores::full, -4, arguments, (x, a) -> x.open(a[0], a[1], a[2]));
        all(19, "move", Stores::usual, NO_CODE, List.of(noSuch(3, 4), noSuch(2, 3)), (x, a) -> x.move(a[0], a[1]));
        arguments = List.of(noSuch(3, 4), badValue(15, 16), badValue(20, 21));
        all(20, "change", Stores::usual, NO_CODE, arguments, (x, a) -> x.change(a[0], a[1], a[2]));
        arguments = List.of(noSuch(0, -1), badValue(0, -1), badValue(0, -1));
        all(20, "change", Stores::usual, NO_CODE, arguments, (x, a) -> x.change(a[0], a[1], a[2]));
        all(21, "hand", Stores::usual, NO_CODE, List.of(noSuch(0, 4), noSuch(1, 5)), (x, a) -> x.hand(a[0], a[1]));
        all(23, "session", Stores::usual, NO_CODE, List.of(noSuch(3, 4), badValue(8, 9)),
            (x, a) -> x.session(a[0], a[1]));
        all(23, "session", Stores::full, NO_CODE, List.of(noSuch(7, 8), badValue(0, -1)),
            (x, a) -> x.session(a[0], a[1]));
    }

    private static void writingAndReading() {
        List<Argument> arguments = List.of(noSuch(0, 8), noSuch(11, 12), badValue(999, 1000));
        all(24, "write where there is room", Stores::usual, NO_CODE, arguments,
            (x, a) -> x.write(a[0], a[1], a[2]));
        all(24, "write without room", Stores::full, -4, arguments, (x, a) -> x.write(a[0], a[1], a[2]));
        arguments = List.of(noSuch(0, -1), noSuch(0, -1), badValue(0, -1));
        all(24, "write without room", Stores::full, -4, arguments, (x, a) -> x.write(a[0], a[1], a[2]));
        arguments = List.of(noSuch(0, 4), noSuch(11, 12));
        all(25, "read that is answered", Stores::usual, NO_CODE, arguments, (x, a) -> x.read(a[0], a[1]));
        arguments = List.of(noSuch(3, 4), noSuch(11, 12));
        all(25, "read that is not possible", Stores::usual, -3, arguments, (x, a) -> x.read(a[0], a[1]));
        arguments = List.of(noSuch(3, 4), noSuch(0, -1), noSuch(9, 3));
        all(26, "readAt that is answered", Stores::usual, NO_CODE, arguments, (x, a) -> x.readAt(a[0], a[1], a[2]));
        arguments = List.of(noSuch(3, 4), noSuch(0, -1), noSuch(1, 3));
        all(26, "readAt that is not possible", Stores::usual, -3, arguments, (x, a) -> x.readAt(a[0], a[1], a[2]));
        all(27, "latest without a read", Stores::empty, -6, List.of(badValue(2, 3)), (x, a) -> x.latest(a[0]));
        all(27, "latest without a read", Stores::empty, -6, List.of(badValue(0, -1)), (x, a) -> x.latest(a[0]));
        all(27, "latest with a read", Stores::usual, NO_CODE, List.of(badValue(2, 3)), (x, a) -> x.latest(a[0]));
    }

    private static void predictions() {
        List<Argument> arguments = List.of(noSuch(3, 4), noSuch(0, 12), noSuch(1, 3));
        all(28, "waitFor where there is none", Stores::usual, -6, arguments, (x, a) -> x.waitFor(a[0], a[1], a[2]));
        all(28, "waitFor", Stores::full, NO_CODE, List.of(noSuch(7, 8), noSuch(11, 12), noSuch(4, 5)),
            (x, a) -> x.waitFor(a[0], a[1], a[2]));
        all(29, "bestReplica", Stores::usual, NO_CODE, List.of(noSuch(0, 4), noSuch(0, 12)),
            (x, a) -> x.bestReplica(a[0], a[1]));
        all(29, "bestReplica where there is none", CodesTest::withoutReplica, -6, List.of(noSuch(0, 1), noSuch(11, 12)),
            (x, a) -> x.bestReplica(a[0], a[1]));
        arguments = List.of(noSuch(3, 4), noSuch(2, 3), badValue(99, 100));
        all(30, "keysAfter", Stores::usual, NO_CODE, arguments, (x, a) -> x.keysAfter(a[0], a[1], a[2]));
        arguments = List.of(noSuch(0, -1), noSuch(9, 8), badValue(0, -1));
        all(30, "keysAfter", Stores::usual, NO_CODE, arguments, (x, a) -> x.keysAfter(a[0], a[1], a[2]));
        for (int code : new int[] {32, 127}) {
            List<Argument> codes = List.of(badValue('t', code));
            all(32, "append where there is room", Stores::usual, NO_CODE, codes, (x, a) -> x.append(a[0]));
            all(32, "append without room", Stores::full, -4, codes, (x, a) -> x.append(a[0]));
        }
    }

    private static ReplicaSessions withoutReplica() {
        ReplicaSessions x = new ReplicaSessions();
        x.open(9, 0, 0);
        return x;
    }

    private static void handsToTheSame() {
        for (int session : new int[] {0, 3}) {
            checks.due(21, "hand of session " + session + " to itself", Stores.usual().hand(session, session), -2);
        }
        for (int session : new int[] {-1, 4, 7, 8, Integer.MIN_VALUE, Integer.MAX_VALUE}) {
            checks.due(21, "hand to itself of no session " + session, Stores.usual().hand(session, session), -1);
        }
    }

    private static void withoutArguments() {
        ReplicaSessions x = Stores.empty();
        checks.due(35, "execute of an empty buffer", x.execute(), -5);
        checks.due(36, "undo without a recorded state", x.undo(), -3);
        checks.due(38, "restore without a saved state", x.restore(), -3);
    }
}
