/** Promises 36 to 38, and which of the other calls are undoable. */
public final class UndoTest {
    private static final Checks checks = new Checks();

    public static void main(String[] args) {
        undoOfEachCall();
        errorsRecordNothing();
        queriesRecordNothing();
        atMostFiveStates();
        callsWithoutDifference();
        wholeState();
        countsOfReads();
        savedState();
        restoreAndUndo();
        checks.finish();
    }

    private static ReplicaSessions store() {
        ReplicaSessions x = new ReplicaSessions();
        x.addReplica(1, -6);
        x.open(0, 1, 20);
        x.open(9, 0, 0);
        Checks.writeMany(x, 3);
        x.tick(1);
        return x;
    }

    private static void undoOfEachCall() {
        ReplicaSessions x = store();
        x.addReplica(2, 9);
        checks.due(2, "addReplica is undoable", x.undo(), 4);
        checks.due(2, "the replica is gone", x.replicas(), 1);
        x.drop(0);
        x.undo();
        checks.due(3, "the replica is there", x.position(0), 1);
        checks.due(3, "the home is the replica", x.session(0, 0), 0);
        x.setRate(0, 7);
        x.undo();
        checks.due(4, "the rate", x.replica(0, 0), 1);
        x.stop(0, true);
        x.undo();
        checks.due(5, "it is not stopped", x.replica(0, 1), 0);
        x.jumpBack(0, 0);
        x.undo();
        checks.due(6, "the position", x.position(0), 1);
        x.tick(1);
        x.undo();
        checks.due(7, "the position", x.position(0), 1);
        x.open(9, 0, 0);
        x.undo();
        checks.due(17, "the session is gone", x.sessions(), 3);
        x.close(0);
        x.undo();
        checks.due(18, "the session is there", x.session(0, 3), 3);
        x.move(0, 9);
        x.undo();
        checks.due(19, "the home", x.session(0, 0), 0);
        x.change(0, 7, 6);
        x.undo();
        checks.due(20, "the options", x.session(0, 1), 1);
        checks.due(20, "the bound", x.session(0, 2), 20);
        x.hand(0, 1);
        x.undo();
        checks.due(21, "the seen mark", x.session(1, 4), 0);
        x.write(1, 5, 5);
        x.undo();
        checks.due(24, "the length", x.length(), 3);
        checks.due(24, "the own mark", x.session(1, 3), 0);
        x.read(0, 0);
        x.undo();
        checks.due(25, "the ticks have not passed", x.position(0), 1);
        checks.due(25, "the seen mark", x.session(0, 4), 0);
        checks.due(25, "there is no latest read", x.latest(0), -6);
        checks.due(25, "no answer", x.answers(0), 0);
        x.readAt(1, 0, 9);
        x.undo();
        checks.due(26, "the seen mark", x.session(1, 4), 0);
        checks.due(26, "no answer", x.answers(9), 0);
        checks.due(36, "the states that were recorded before", x.undo(), 3);
    }

    private static void errorsRecordNothing() {
        ReplicaSessions x = store();
        x.stop(0, true);
        x.addReplica(10, -6);
        x.drop(1);
        x.setRate(0, 10);
        x.stop(1, true);
        x.jumpBack(0, 2);
        x.tick(0);
        x.open(9, 16, 0);
        x.close(2);
        x.move(0, 1);
        x.change(0, 16, 0);
        x.hand(0, 0);
        x.write(0, 12, 0);
        x.read(0, 0);
        x.readAt(0, 0, 0);
        x.execute();
        x.restore();
        checks.due(36, "undo", x.undo(), 4);
        checks.due(36, "the stop was the latest", x.replica(0, 1), 0);
        checks.due(36, "undo", x.undo(), 3);
        checks.due(36, "the tick was before it", x.position(0), 0);
    }

    private static void queriesRecordNothing() {
        ReplicaSessions x = store();
        x.length();
        x.logged(1, 0);
        x.position(0);
        x.version(0, 0);
        x.value(0, 0);
        x.missing(0, 0);
        x.answers(0);
        x.replicas();
        x.replica(0, 0);
        x.sessions();
        x.session(0, 0);
        x.latest(0);
        x.save();
        x.append('t');
        x.errorPosition();
        x.clearText();
        checks.due(36, "undo", x.undo(), 4);
        checks.due(36, "the tick was the latest", x.position(0), 0);
    }

    private static void atMostFiveStates() {
        ReplicaSessions x = new ReplicaSessions();
        checks.due(36, "none", x.undo(), -3);
        x.open(9, 0, 0);
        Checks.writeMany(x, 4);
        for (int left = 4; left >= 0; left--) {
            checks.due(36, "five are kept", x.undo(), left);
        }
        checks.due(36, "none is left", x.undo(), -3);
        checks.due(36, "the first one was kept", x.sessions(), 0);
        x.open(9, 0, 0);
        Checks.writeMany(x, 13);
        for (int left = 4; left >= 0; left--) {
            checks.due(36, "five are kept", x.undo(), left);
            checks.due(36, "the length then", x.length(), 8 + left);
        }
        checks.due(36, "none is left", x.undo(), -3);
        checks.due(36, "the length stays", x.length(), 8);
        x.write(0, 1, 1);
        checks.due(36, "one is recorded again", x.undo(), 0);
    }

    private static void callsWithoutDifference() {
        ReplicaSessions x = new ReplicaSessions();
        x.open(9, 0, 0);
        x.tick(1);
        x.move(0, 9);
        x.change(0, 0, 0);
        checks.due(36, "calls that make no difference count", x.undo(), 3);
        checks.due(36, "the session is there", x.sessions(), 1);
        x.undo();
        x.undo();
        checks.due(36, "the first one", x.undo(), 0);
        checks.due(36, "the session is gone", x.sessions(), 0);
    }

    private static void wholeState() {
        ReplicaSessions x = store();
        x.save();
        x.read(0, 0);
        x.drop(0);
        x.close(1);
        x.write(0, 0, 500);
        x.write(0, 1, 501);
        x.save();
        for (int i = 0; i < 5; i++) {
            x.undo();
        }
        checks.due(36, "the length", x.length(), 3);
        checks.due(36, "the position", x.position(0), 1);
        checks.due(36, "the sessions", x.sessions(), 3);
        checks.due(36, "no answer", x.answers(0), 0);
        checks.due(36, "no latest read", x.latest(1), -6);
        checks.due(37, "the saved state is not undone", x.restore(), 5);
        checks.due(38, "the second save counts", x.logged(5, 1), 501);
    }

    private static void countsOfReads() {
        ReplicaSessions x = new ReplicaSessions();
        x.addReplica(0, -6);
        x.open(9, 0, 0);
        x.write(0, 0, 1);
        x.read(0, 0);
        x.undo();
        x.readAt(0, 0, 0);
        checks.due(36, "the undone read does not count", x.session(0, 6), 1);
        checks.due(36, "the write is undone by the read", x.session(0, 7), 1);
        checks.due(36, "nothing was read before", x.session(0, 8), 0);
        x.undo();
        x.undo();
        checks.due(36, "the length", x.length(), 0);
        x.open(9, 0, 0);
        x.write(1, 0, 2);
        x.readAt(0, 0, 0);
        checks.due(36, "the undone write does not count", x.session(0, 7), 0);
    }

    private static void savedState() {
        ReplicaSessions x = store();
        checks.due(38, "nothing is saved", x.restore(), -3);
        checks.due(37, "save", x.save(), 3);
        x.write(0, 0, 9);
        x.drop(0);
        x.open(9, 0, 0);
        Checks.type(x, "t1");
        checks.due(38, "restore", x.restore(), 3);
        checks.due(38, "the replica", x.position(0), 1);
        checks.due(38, "the sessions", x.sessions(), 3);
        checks.due(38, "the buffer stays", x.clearText(), 2);
        x.write(0, 0, 9);
        checks.due(38, "it remains saved", x.restore(), 3);
        x.write(0, 0, 8);
        checks.due(37, "save again", x.save(), 4);
        x.write(0, 0, 7);
        checks.due(38, "the later one", x.restore(), 4);
        checks.due(38, "its write", x.value(9, 0), 8);
    }

    private static void restoreAndUndo() {
        ReplicaSessions x = store();
        x.save();
        x.write(0, 5, 100);
        x.write(0, 6, 101);
        x.restore();
        checks.due(38, "restore is undoable", x.undo(), 4);
        checks.due(38, "the length", x.length(), 5);
        checks.due(38, "the write", x.logged(5, 0), 6);
        x.restore();
        x.write(1, 7, 200);
        x.undo();
        x.undo();
        checks.due(38, "the other log comes back", x.logged(4, 1), 100);
        checks.due(38, "it is still saved", x.restore(), 3);
        checks.due(38, "a state is recorded without a difference", x.restore(), 3);
        x.undo();
        checks.due(38, "the first restore is not undone", x.length(), 3);
    }
}
