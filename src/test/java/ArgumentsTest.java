import java.util.Set;
import java.util.TreeSet;
import java.util.function.Supplier;

/**
 * The range of each argument: all that is allowed, and on both sides the first that is refused,
 * and numbers that would be allowed if they were cut to 8 or 16 bits. Each on a store of its own.
 */
public final class ArgumentsTest {
    private static final Checks checks = new Checks();
    private static final Set<Integer> PLACES = Set.of(0, 1, 2, 9);
    private static final Set<Integer> REPLICAS = Set.of(0, 1, 2);
    private static final Set<Integer> SESSIONS = Set.of(0, 1, 2, 3);

    private interface Call {
        int on(ReplicaSessions x, int argument);
    }

    public static void main(String[] args) {
        replicas();
        placesAndKeys();
        sessions();
        readingAndPredictions();
        allPlaces();
        noPlaces();
        checks.finish();
    }

    private static Set<Integer> range(int least, int most) {
        Set<Integer> range = new TreeSet<>();
        for (int number = least; number <= most; number++) {
            range.add(number);
        }
        return range;
    }

    private static Set<Integer> numbersToTry(Set<Integer> allowed) {
        Set<Integer> numbers = range(-12, 20);
        numbers.addAll(Set.of(Integer.MIN_VALUE, Integer.MIN_VALUE + 1, Integer.MAX_VALUE - 1, Integer.MAX_VALUE));
        for (int number : allowed) {
            numbers.addAll(Set.of(number - 1, number, number + 1));
            numbers.addAll(Set.of(number + (1 << 8), number - (1 << 8), number + (1 << 16), number - (1 << 16),
                number + (1 << 31), number + (1 << 30), ~number));
        }
        return numbers;
    }

    /** Where the argument is allowed, the answer is no error code: 0 or more, or NONE. */
    private static void argument(int promise, String name, Supplier<ReplicaSessions> store, Set<Integer> allowed,
            int code, Call call) {
        for (int number : numbersToTry(allowed)) {
            int got = call.on(store.get(), number);
            if (allowed.contains(number)) {
                checks.holds("promise " + promise + ": " + name + " " + number + " is allowed, not " + got,
                    got >= 0 || got == -6);
            } else {
                checks.due(promise, name + " " + number, got, code);
            }
        }
    }

    private static void usual(int promise, String name, Set<Integer> allowed, int code, Call call) {
        argument(promise, name, Stores::usual, allowed, code, call);
    }

    private static void replicas() {
        usual(2, "addReplica, rate", range(0, 9), -2, (x, number) -> x.addReplica(number, -6));
        usual(2, "addReplica, like", Set.of(0, 1, 2, 9, -6), -1, (x, number) -> x.addReplica(0, number));
        usual(3, "drop", REPLICAS, -1, (x, number) -> x.drop(number));
        usual(4, "setRate, replica", REPLICAS, -1, (x, number) -> x.setRate(number, 0));
        usual(4, "setRate, rate", range(0, 9), -2, (x, number) -> x.setRate(0, number));
        usual(5, "stop", REPLICAS, -1, (x, number) -> x.stop(number, true));
        usual(5, "stop", REPLICAS, -1, (x, number) -> x.stop(number, false));
        usual(6, "jumpBack, replica", REPLICAS, -1, (x, number) -> x.jumpBack(number, 0));
        usual(6, "jumpBack, position 0", Set.of(0), -2, (x, number) -> x.jumpBack(1, number));
        usual(6, "jumpBack, position", range(0, 3), -2, (x, number) -> x.jumpBack(2, number));
        usual(7, "tick", range(1, 99), -2, (x, number) -> x.tick(number));
        usual(9, "replica, replica", REPLICAS, -1, (x, number) -> x.replica(number, 0));
        usual(9, "replica, part", range(0, 2), -2, (x, number) -> x.replica(0, number));
    }

    private static void placesAndKeys() {
        usual(11, "logged, number", range(1, 6), -1, (x, number) -> x.logged(number, 0));
        usual(11, "logged, part", range(0, 2), -2, (x, number) -> x.logged(1, number));
        usual(12, "position", PLACES, -1, (x, number) -> x.position(number));
        usual(13, "version, place", PLACES, -1, (x, number) -> x.version(number, 0));
        usual(13, "version, key", range(0, 11), -1, (x, number) -> x.version(9, number));
        usual(14, "value, place", PLACES, -1, (x, number) -> x.value(number, 0));
        usual(14, "value, key", range(0, 11), -1, (x, number) -> x.value(0, number));
        usual(15, "missing, place", PLACES, -1, (x, number) -> x.missing(number, 0));
        usual(15, "missing, key", range(0, 11), -1, (x, number) -> x.missing(1, number));
        usual(16, "answers", PLACES, -1, (x, number) -> x.answers(number));
    }

    private static void sessions() {
        usual(17, "open, home", PLACES, -1, (x, number) -> x.open(number, 0, 0));
        usual(17, "open, options", range(0, 15), -2, (x, number) -> x.open(9, number, 0));
        usual(17, "open, bound", range(0, 20), -2, (x, number) -> x.open(9, 0, number));
        usual(18, "close", SESSIONS, -1, (x, number) -> x.close(number));
        usual(19, "move, session", SESSIONS, -1, (x, number) -> x.move(number, 0));
        usual(19, "move, home", PLACES, -1, (x, number) -> x.move(0, number));
        usual(20, "change, session", SESSIONS, -1, (x, number) -> x.change(number, 0, 0));
        usual(20, "change, options", range(0, 15), -2, (x, number) -> x.change(0, number, 0));
        usual(20, "change, bound", range(0, 20), -2, (x, number) -> x.change(0, 0, number));
        usual(21, "hand, session", SESSIONS, -1, (x, number) -> x.hand(number, number == 0 ? 1 : 0));
        usual(21, "hand, other", SESSIONS, -1, (x, number) -> x.hand(number == 0 ? 1 : 0, number));
        usual(23, "session, session", SESSIONS, -1, (x, number) -> x.session(number, 0));
        usual(23, "session, part", range(0, 8), -2, (x, number) -> x.session(0, number));
    }

    private static void readingAndPredictions() {
        usual(24, "write, session", SESSIONS, -1, (x, number) -> x.write(number, 0, 0));
        usual(24, "write, key", range(0, 11), -1, (x, number) -> x.write(0, number, 0));
        usual(24, "write, value", range(0, 999), -2, (x, number) -> x.write(0, 0, number));
        usual(25, "read, session", SESSIONS, -1, ArgumentsTest::readAtThePrimary);
        usual(25, "read, key", range(0, 11), -1, (x, number) -> x.read(2, number));
        usual(26, "readAt, session", SESSIONS, -1, (x, number) -> x.readAt(number, 0, 9));
        usual(26, "readAt, key", range(0, 11), -1, (x, number) -> x.readAt(0, number, 9));
        usual(26, "readAt, place", PLACES, -1, (x, number) -> x.readAt(0, 0, number));
        usual(27, "latest", range(0, 2), -2, (x, number) -> x.latest(number));
        usual(28, "waitFor, session", SESSIONS, -1, (x, number) -> x.waitFor(number, 0, 0));
        usual(28, "waitFor, key", range(0, 11), -1, (x, number) -> x.waitFor(0, number, 0));
        usual(28, "waitFor, place", PLACES, -1, (x, number) -> x.waitFor(0, 0, number));
        usual(29, "bestReplica, session", SESSIONS, -1, (x, number) -> x.bestReplica(number, 0));
        usual(29, "bestReplica, key", range(0, 11), -1, (x, number) -> x.bestReplica(0, number));
        usual(30, "keysAfter, session", SESSIONS, -1, (x, number) -> x.keysAfter(number, 0, 0));
        usual(30, "keysAfter, place", PLACES, -1, (x, number) -> x.keysAfter(0, number, 0));
        usual(30, "keysAfter, ticks", range(0, 99), -2, (x, number) -> x.keysAfter(0, 0, number));
        usual(32, "append", range(33, 126), -2, (x, number) -> x.append(number));
    }

    /** So that every session that is there can be answered. */
    private static int readAtThePrimary(ReplicaSessions x, int session) {
        x.move(session, 9);
        return x.read(session, 0);
    }

    /** With all replicas, sessions and writes there, only the numbers of none are refused. */
    private static void allPlaces() {
        Supplier<ReplicaSessions> full = Stores::full;
        Set<Integer> places = Set.of(0, 1, 2, 3, 4, 9);
        argument(3, "drop of five", full, range(0, 4), -1, (x, number) -> x.drop(number));
        argument(4, "setRate of five", full, range(0, 4), -1, (x, number) -> x.setRate(number, 1));
        argument(9, "replica of five", full, range(0, 4), -1, (x, number) -> x.replica(number, 1));
        argument(11, "logged of 200", full, range(1, 200), -1, (x, number) -> x.logged(number, 1));
        argument(12, "position of five", full, places, -1, (x, number) -> x.position(number));
        argument(16, "answers of five", full, places, -1, (x, number) -> x.answers(number));
        argument(18, "close of eight", full, range(0, 7), -1, (x, number) -> x.close(number));
        argument(19, "move to one of five", full, places, -1, (x, number) -> x.move(7, number));
        argument(23, "session of eight", full, range(0, 7), -1, (x, number) -> x.session(number, 0));
        argument(26, "readAt of eight", full, range(0, 7), -1, (x, number) -> x.readAt(number, 0, 9));
        argument(28, "waitFor at one of five", full, places, -1, (x, number) -> x.waitFor(7, 0, number));
        argument(30, "keysAfter at one of five", full, places, -1, (x, number) -> x.keysAfter(7, number, 0));
        argument(6, "jumpBack of 12", full, range(0, 12), -2, (x, number) -> x.jumpBack(4, number));
    }

    /** With nothing there, the primary is the only place. */
    private static void noPlaces() {
        Supplier<ReplicaSessions> empty = Stores::empty;
        argument(2, "like in an empty store", empty, Set.of(9, -6), -1, (x, number) -> x.addReplica(0, number));
        argument(3, "drop in an empty store", empty, Set.of(), -1, (x, number) -> x.drop(number));
        argument(9, "replica in an empty store", empty, Set.of(), -1, (x, number) -> x.replica(number, 0));
        argument(11, "logged in an empty store", empty, Set.of(), -1, (x, number) -> x.logged(number, 0));
        argument(12, "position in an empty store", empty, Set.of(9), -1, (x, number) -> x.position(number));
        argument(16, "answers in an empty store", empty, Set.of(9), -1, (x, number) -> x.answers(number));
        argument(17, "home in an empty store", empty, Set.of(9), -1, (x, number) -> x.open(number, 0, 0));
        argument(18, "close in an empty store", empty, Set.of(), -1, (x, number) -> x.close(number));
        argument(23, "session in an empty store", empty, Set.of(), -1, (x, number) -> x.session(number, 0));
        argument(27, "latest in an empty store", empty, range(0, 2), -2, (x, number) -> x.latest(number));
    }
}
