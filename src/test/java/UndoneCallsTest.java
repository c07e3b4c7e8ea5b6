import java.util.ArrayList;
import java.util.List;
import java.util.function.Supplier;

/**
 * Each call that is marked "Undoable." is made and undone on a store that is looked at in all ways
 * then; so are the states that were recorded ahead of it, and the state that restore() brings back.
 */
public final class UndoneCallsTest {
    private static final Checks checks = new Checks();

    private interface Call {
        int on(ReplicaSessions x);
    }

    private final Supplier<ReplicaSessions> store;
    private final String name;
    private final List<Views.View> looks = Views.looks();
    /** What each look answers where some of the recorded states are undone. */
    private final List<List<List<Integer>>> dueAfterUndo = new ArrayList<>();

    private UndoneCallsTest(String name, Supplier<ReplicaSessions> store) {
        this.name = name;
        this.store = store;
        for (int undone = 0; undone < 5; undone++) {
            List<List<Integer>> due = new ArrayList<>();
            for (Views.View look : looks) {
                ReplicaSessions x = store.get();
                undo(x, undone);
                due.add(look.of(x));
            }
            dueAfterUndo.add(due);
        }
    }

    public static void main(String[] args) {
        UndoneCallsTest usual = new UndoneCallsTest("a usual store", Stores::usual);
        UndoneCallsTest full = new UndoneCallsTest("a full store", Stores::full);
        usual.undoable(2, "addReplica(3, 2)", x -> x.addReplica(3, 2));
        usual.undoable(17, "open(2, 5, 7)", x -> x.open(2, 5, 7));
        usual.undoable(35, "execute()", UndoneCallsTest::executeAndTypeAgain);
        usual.undoable(25, "read(2, 2)", x -> x.read(2, 2));
        usual.undoable(24, "write(0, 5, 77)", x -> x.write(0, 5, 77));
        usual.undoable(24, "write(0, 0, 10), as before", x -> x.write(0, 0, 10));
        for (UndoneCallsTest on : List.of(usual, full)) {
            on.undoable(3, "drop(1)", x -> x.drop(1));
            on.undoable(4, "setRate(2, 7)", x -> x.setRate(2, 7));
            on.undoable(5, "stop(2, false)", x -> x.stop(2, false));
            on.undoable(5, "stop(0, true)", x -> x.stop(0, true));
            on.undoable(6, "jumpBack(2, 0)", x -> x.jumpBack(2, 0));
            on.undoable(7, "tick(1)", x -> x.tick(1));
            on.undoable(7, "tick(99)", x -> x.tick(99));
            on.undoable(18, "close(1)", x -> x.close(1));
            on.undoable(18, "close(0)", x -> x.close(0));
            on.undoable(19, "move(0, 9)", x -> x.move(0, 9));
            on.undoable(20, "change(1, 8, 19)", x -> x.change(1, 8, 19));
            on.undoable(21, "hand(3, 0)", x -> x.hand(3, 0));
            on.undoable(26, "readAt(0, 0, 9)", x -> x.readAt(0, 0, 9));
            on.undoable(38, "restore()", ReplicaSessions::restore);
        }
        full.undoable(25, "read(7, 2)", x -> x.read(7, 2));
        full.undoable(25, "read(6, 11)", x -> x.read(6, 11));
        full.undoable(26, "readAt(6, 11, 9)", x -> x.readAt(6, 11, 9));
        checks.finish();
    }

    /** The buffer is no part of the state; so it is put back by hand. */
    private static int executeAndTypeAgain(ReplicaSessions x) {
        int executed = x.execute();
        Checks.type(x, Stores.USUAL_TEXT);
        return executed;
    }

    private static void undo(ReplicaSessions x, int times) {
        for (int i = 0; i < times; i++) {
            x.undo();
        }
    }

    private void undoable(int promise, String call, Call undoable) {
        String label = call + " on " + name;
        int got = undoable.on(store.get());
        checks.holds("promise " + promise + ": " + label + " is right, not " + got, got >= 0 || got == -6);
        for (int look = 0; look < looks.size(); look++) {
            for (int undone = 0; undone < 5; undone++) {
                ReplicaSessions x = store.get();
                undoable.on(x);
                checks.due(36, "undo of " + label, x.undo(), 4);
                undo(x, undone);
                checks.same(36, "look " + look + " after undo of " + label + " and " + undone + " more",
                    looks.get(look).of(x), dueAfterUndo.get(undone).get(look));
            }
            restored(label, undoable, look);
        }
    }

    private void restored(String label, Call undoable, int look) {
        if (label.startsWith("restore")) {
            return;
        }
        ReplicaSessions x = store.get();
        x.save();
        for (int times = 0; times < 2; times++) {
            undoable.on(x);
            checks.due(38, "restore after " + label, x.restore(), x.length());
        }
        checks.same(38, "look " + look + " after restore behind " + label, looks.get(look).of(x),
            dueAfterUndo.get(0).get(look));
    }
}
