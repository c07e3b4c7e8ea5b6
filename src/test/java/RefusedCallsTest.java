import java.util.ArrayList;
import java.util.List;
import java.util.function.Supplier;

/**
 * "A call that returns an error code changes nothing": neither the state, nor the recorded states,
 * nor the saved one, nor the buffer. Each refused call is made on stores that are looked at in all
 * ways then, and each look is compared with that at a store without the call. The same is asked of
 * the calls that only tell something.
 */
public final class RefusedCallsTest {
    private static final Checks checks = new Checks();

    private interface Call {
        int on(ReplicaSessions x);
    }

    private final String name;
    private final Supplier<ReplicaSessions> store;
    private final List<Views.View> views = Views.all();
    private final List<List<Integer>> due = new ArrayList<>();

    private RefusedCallsTest(String name, Supplier<ReplicaSessions> store) {
        this.name = name;
        this.store = store;
        for (Views.View view : views) {
            due.add(view.of(store.get()));
        }
    }

    public static void main(String[] args) {
        RefusedCallsTest empty = new RefusedCallsTest("an empty store", Stores::empty);
        RefusedCallsTest small = new RefusedCallsTest("a small store", Stores::small);
        RefusedCallsTest usual = new RefusedCallsTest("a usual store", Stores::usual);
        RefusedCallsTest full = new RefusedCallsTest("a full store", Stores::full);
        for (RefusedCallsTest test : List.of(empty, small, usual, full)) {
            wrongNumbers(test);
            placesThatAreNone(test);
        }
        nothingThere(empty);
        valuesOutOfRange(small);
        valuesOutOfRange(usual);
        valuesOutOfRange(full);
        nothingSaved(small);
        notPossible(usual);
        noRoom(full);
        for (RefusedCallsTest test : List.of(small, usual, full)) {
            onlyTold(test);
        }
        checks.finish();
    }

    private void refused(int promise, String call, int code, Call refused) {
        checks.due(promise, call + " on " + name, refused.on(store.get()), code);
        isAsWithout(promise, call, refused);
    }

    private void isAsWithout(int promise, String call, Call extra) {
        for (int i = 0; i < views.size(); i++) {
            ReplicaSessions x = store.get();
            extra.on(x);
            checks.same(promise, "look " + i + " after " + call + " on " + name, views.get(i).of(x), due.get(i));
        }
    }

    /** Numbers of sessions, replicas and keys that never are, on a store with anything in it. */
    private static void wrongNumbers(RefusedCallsTest on) {
        on.refused(3, "drop(5)", -1, x -> x.drop(5));
        on.refused(4, "setRate(5, 1)", -1, x -> x.setRate(5, 1));
        on.refused(5, "stop(-1, true)", -1, x -> x.stop(-1, true));
        on.refused(6, "jumpBack(9, 0)", -1, x -> x.jumpBack(9, 0));
        on.refused(7, "tick(0)", -2, x -> x.tick(0));
        on.refused(7, "tick(100)", -2, x -> x.tick(100));
        on.refused(18, "close(8)", -1, x -> x.close(8));
        on.refused(19, "move(8, 9)", -1, x -> x.move(8, 9));
        on.refused(20, "change(-1, 0, 0)", -1, x -> x.change(-1, 0, 0));
        on.refused(21, "hand(0, 8)", -1, x -> x.hand(0, 8));
        on.refused(21, "hand(8, 0)", -1, x -> x.hand(8, 0));
        on.refused(24, "write(8, 0, 0)", -1, x -> x.write(8, 0, 0));
        on.refused(24, "write(0, 12, 0)", -1, x -> x.write(0, 12, 0));
        on.refused(25, "read(8, 0)", -1, x -> x.read(8, 0));
        on.refused(25, "read(0, -1)", -1, x -> x.read(0, -1));
        on.refused(26, "readAt(8, 0, 9)", -1, x -> x.readAt(8, 0, 9));
        on.refused(26, "readAt(0, 12, 9)", -1, x -> x.readAt(0, 12, 9));
        on.refused(32, "append(32)", -2, x -> x.append(32));
        on.refused(32, "append(127)", -2, x -> x.append(127));
        on.refused(2, "addReplica(10, -6)", -2, x -> x.addReplica(10, -6));
        on.refused(17, "open(9, 16, 0)", -2, x -> x.open(9, 16, 0));
        on.refused(17, "open(9, 0, 21)", -2, x -> x.open(9, 0, 21));
    }

    private static void placesThatAreNone(RefusedCallsTest on) {
        on.refused(2, "addReplica(0, 5)", -1, x -> x.addReplica(0, 5));
        on.refused(17, "open(8, 0, 0)", -1, x -> x.open(8, 0, 0));
        on.refused(19, "move(0, 10)", -1, x -> x.move(0, 10));
        on.refused(26, "readAt(0, 0, -6)", -1, x -> x.readAt(0, 0, -6));
    }

    private static void nothingThere(RefusedCallsTest on) {
        on.refused(3, "drop(0)", -1, x -> x.drop(0));
        on.refused(18, "close(0)", -1, x -> x.close(0));
        on.refused(24, "write(0, 0, 0)", -1, x -> x.write(0, 0, 0));
        on.refused(25, "read(0, 0)", -1, x -> x.read(0, 0));
        on.refused(35, "execute()", -5, ReplicaSessions::execute);
        on.refused(36, "undo()", -3, ReplicaSessions::undo);
        on.refused(38, "restore()", -3, ReplicaSessions::restore);
    }

    private static void valuesOutOfRange(RefusedCallsTest on) {
        on.refused(4, "setRate(0, 10)", -2, x -> x.setRate(0, 10));
        on.refused(4, "setRate(0, -1)", -2, x -> x.setRate(0, -1));
        on.refused(6, "jumpBack(0, 201)", -2, x -> x.jumpBack(0, 201));
        on.refused(6, "jumpBack(0, -1)", -2, x -> x.jumpBack(0, -1));
        on.refused(20, "change(0, 16, 0)", -2, x -> x.change(0, 16, 0));
        on.refused(20, "change(1, 0, 21)", -2, x -> x.change(1, 0, 21));
        on.refused(21, "hand(1, 1)", -2, x -> x.hand(1, 1));
        on.refused(24, "write(0, 0, 1000)", -2, x -> x.write(0, 0, 1000));
        on.refused(24, "write(1, 11, -1)", -2, x -> x.write(1, 11, -1));
    }

    private static void nothingSaved(RefusedCallsTest on) {
        on.refused(35, "execute() of an unfinished text", -5, ReplicaSessions::execute);
        on.refused(38, "restore()", -3, ReplicaSessions::restore);
    }

    private static void notPossible(RefusedCallsTest on) {
        on.refused(3, "drop(3)", -1, x -> x.drop(3));
        on.refused(19, "move(0, 3)", -1, x -> x.move(0, 3));
        on.refused(18, "close(4)", -1, x -> x.close(4));
        on.refused(6, "jumpBack(0, 2), ahead of position 1", -2, x -> x.jumpBack(0, 2));
        on.refused(25, "read(3, 0), of a home that never could answer", -3, x -> x.read(3, 0));
        on.refused(25, "read(1, 1), with a wait beyond the bound", -3, x -> x.read(1, 1));
        on.refused(26, "readAt(3, 0, 0)", -3, x -> x.readAt(3, 0, 0));
        on.refused(26, "readAt(2, 5, 0), with FALL_BACK", -3, x -> x.readAt(2, 5, 0));
        on.refused(35, "execute() after a character that makes the text none", -5, x -> {
            x.append(';');
            int code = x.execute();
            Checks.type(x, Stores.USUAL_TEXT);
            return code;
        });
    }

    private static void noRoom(RefusedCallsTest on) {
        on.refused(2, "addReplica(9, 9)", -4, x -> x.addReplica(9, 9));
        on.refused(2, "addReplica(0, -6)", -4, x -> x.addReplica(0, -6));
        on.refused(17, "open(9, 15, 20)", -4, x -> x.open(9, 15, 20));
        on.refused(24, "write(0, 0, 5)", -4, x -> x.write(0, 0, 5));
        on.refused(24, "write(7, 11, 999)", -4, x -> x.write(7, 11, 999));
        on.refused(32, "append('t')", -4, x -> x.append('t'));
    }

    /** "predictions; they change nothing", and so do the other calls that only tell something. */
    private static void onlyTold(RefusedCallsTest on) {
        on.isAsWithout(8, "replicas()", ReplicaSessions::replicas);
        on.isAsWithout(9, "replica(0, 2)", x -> x.replica(0, 2));
        on.isAsWithout(10, "length()", ReplicaSessions::length);
        on.isAsWithout(11, "logged(1, 1)", x -> x.logged(1, 1));
        on.isAsWithout(12, "position(0)", x -> x.position(0));
        on.isAsWithout(13, "version(0, 0)", x -> x.version(0, 0));
        on.isAsWithout(14, "value(9, 0)", x -> x.value(9, 0));
        on.isAsWithout(15, "missing(0, 0)", x -> x.missing(0, 0));
        on.isAsWithout(16, "answers(9)", x -> x.answers(9));
        on.isAsWithout(22, "sessions()", ReplicaSessions::sessions);
        on.isAsWithout(23, "session(0, 5)", x -> x.session(0, 5));
        on.isAsWithout(27, "latest(0)", x -> x.latest(0));
        on.isAsWithout(28, "waitFor(0, 0, 0)", x -> x.waitFor(0, 0, 0));
        on.isAsWithout(28, "waitFor(1, 0, 9)", x -> x.waitFor(1, 0, 9));
        on.isAsWithout(29, "bestReplica(1, 0)", x -> x.bestReplica(1, 0));
        on.isAsWithout(30, "keysAfter(1, 0, 99)", x -> x.keysAfter(1, 0, 99));
        on.isAsWithout(31, "catchUp()", ReplicaSessions::catchUp);
        on.isAsWithout(34, "errorPosition()", ReplicaSessions::errorPosition);
    }
}
