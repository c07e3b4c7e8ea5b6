/** Promises 36 to 38, and which of the other calls are undoable. */
public final class UndoTest {
    private static final Checks checks = new Checks();

    public static void main(String[] args) {
        undoOfEachCall();
        errorsRecordNothing();
        queriesRecordNothing();
        atMostFiveStates();
        callsWithoutDifference();
        errorsKeepTheOldestState();
        wholeState();
        countsOfReads();
        logAndLatestRead();
        savedState();
        restoreAndUndo();
        checks.finish();
    }

    /** More calls than can be undone, so that an older state in place of the right one shows. */
    private static ReplicaSessions store() {
        ReplicaSessions x = new ReplicaSessions();
        x.addReplica(1, -6);
        x.open(0, 1, 20);
        x.open(9, 0, 0);
        Checks.writeMany(x, 3);
        x.tick(1);
        return x;
    }

    private static void isAsBefore(int promise, String call, ReplicaSessions x) {
        checks.due(promise, call + " is undoable", x.undo(), 4);
        checks.due(promise, "replicas before " + call, x.replicas(), 1);
        checks.due(promise, "rate before " + call, x.replica(0, 0), 1);
        checks.due(promise, "stopped before " + call, x.replica(0, 1), 0);
        checks.due(promise, "position before " + call, x.position(0), 1);
        checks.due(promise, "length before " + call, x.length(), 3);
        checks.due(promise, "sessions before " + call, x.sessions(), 3);
        checks.due(promise, "home before " + call, x.session(0, 0), 0);
        checks.due(promise, "options before " + call, x.session(0, 1), 1);
        checks.due(promise, "bound before " + call, x.session(0, 2), 20);
        checks.due(promise, "own mark before " + call, x.session(0, 3), 3);
        checks.due(promise, "own mark before " + call, x.session(1, 3), 0);
        checks.due(promise, "seen mark before " + call, x.session(0, 4), 0);
        checks.due(promise, "seen mark before " + call, x.session(1, 4), 0);
        checks.due(promise, "reads before " + call, x.session(0, 6) + x.session(1, 6), 0);
        checks.due(promise, "latest read before " + call, x.latest(0), -6);
        checks.due(promise, "answers before " + call, x.answers(0) + x.answers(9), 0);
        checks.due(promise, "undo of what was before " + call, x.undo(), 3);
        checks.due(promise, "the tick before " + call + " has not passed", x.position(0), 0);
    }

    private static void undoOfEachCall() {
        ReplicaSessions x = store();
        x.addReplica(2, 9);
        isAsBefore(2, "addReplica", x);
        x = store();
        x.drop(0);
        isAsBefore(3, "drop", x);
        x = store();
        x.setRate(0, 7);
        isAsBefore(4, "setRate", x);
        x = store();
        x.stop(0, true);
        isAsBefore(5, "stop", x);
        x = store();
        x.jumpBack(0, 0);
        isAsBefore(6, "jumpBack", x);
        x = store();
        x.tick(1);
        isAsBefore(7, "tick", x);
        x = store();
        x.open(9, 0, 0);
        isAsBefore(17, "open", x);
        x = store();
        x.close(0);
        isAsBefore(18, "close", x);
        x = store();
        x.move(0, 9);
        isAsBefore(19, "move", x);
        x = store();
        x.change(0, 7, 6);
        isAsBefore(20, "change", x);
        x = store();
        x.hand(0, 1);
        isAsBefore(21, "hand", x);
        x = store();
        x.write(1, 5, 5);
        isAsBefore(24, "write", x);
        x = store();
        x.read(0, 0);
        isAsBefore(25, "read", x);
        x = store();
        x.readAt(1, 0, 9);
        isAsBefore(26, "readAt", x);
        x = store();
        Checks.type(x, "t1;m0>p;w1:0=0");
        x.execute();
        isAsBefore(35, "execute", x);
        x = new ReplicaSessions();
        x.save();
        checks.due(38, "restore is undoable", x.restore(), 0);
        checks.due(38, "restore is undoable", x.undo(), 0);
        x = store();
        x.save();
        x.restore();
        isAsBefore(38, "restore", x);
    }

    private static void errorsRecordNothing() {
        ReplicaSessions x = store();
        x.stop(0, true);
        x.addReplica(10, -6);
        x.drop(1);
        x.setRate(0, 10);
        x.stop(1, true);
        x.jumpBack(0, 2);
        x.tick(0);
        x.open(9, 16, 0);
        x.close(2);
        x.move(0, 1);
        x.change(0, 16, 0);
        x.hand(0, 0);
        x.write(0, 12, 0);
        x.read(0, 0);
        x.readAt(0, 0, 0);
        x.execute();
        x.restore();
        checks.due(36, "undo", x.undo(), 4);
        checks.due(36, "the stop was the latest", x.replica(0, 1), 0);
        checks.due(36, "undo", x.undo(), 3);
        checks.due(36, "the tick was before it", x.position(0), 0);
    }

    private static void queriesRecordNothing() {
        ReplicaSessions x = store();
        x.length();
        x.logged(1, 0);
        x.position(0);
        x.version(0, 0);
        x.value(0, 0);
        x.missing(0, 0);
        x.answers(0);
        x.replicas();
        x.replica(0, 0);
        x.sessions();
        x.session(0, 0);
        x.latest(0);
        x.save();
        x.append('t');
        x.errorPosition();
        x.clearText();
        checks.due(36, "undo", x.undo(), 4);
        checks.due(36, "the tick was the latest", x.position(0), 0);
    }

    private static void atMostFiveStates() {
        ReplicaSessions x = new ReplicaSessions();
        checks.due(36, "none", x.undo(), -3);
        x.open(9, 0, 0);
        Checks.writeMany(x, 4);
        for (int left = 4; left >= 0; left--) {
            checks.due(36, "five are kept", x.undo(), left);
        }
        checks.due(36, "none is left", x.undo(), -3);
        checks.due(36, "the first one was kept", x.sessions(), 0);
        x.open(9, 0, 0);
        Checks.writeMany(x, 13);
        for (int left = 4; left >= 0; left--) {
            checks.due(36, "five are kept", x.undo(), left);
            checks.due(36, "the length then", x.length(), 8 + left);
        }
        checks.due(36, "none is left", x.undo(), -3);
        checks.due(36, "the length stays", x.length(), 8);
        x.write(0, 1, 1);
        checks.due(36, "one is recorded again", x.undo(), 0);
    }

    private static void errorsKeepTheOldestState() {
        ReplicaSessions x = store();
        x.write(0, 12, 0);
        x.tick(0);
        for (int left = 4; left >= 0; left--) {
            checks.due(36, "five are kept", x.undo(), left);
        }
        checks.due(36, "the sessions of the oldest one", x.sessions(), 1);
        checks.due(36, "the length of the oldest one", x.length(), 0);
    }

    private static void callsWithoutDifference() {
        ReplicaSessions x = new ReplicaSessions();
        x.open(9, 0, 0);
        x.tick(1);
        x.move(0, 9);
        x.change(0, 0, 0);
        checks.due(36, "calls that make no difference count", x.undo(), 3);
        checks.due(36, "the session is there", x.sessions(), 1);
        x.undo();
        x.undo();
        checks.due(36, "the first one", x.undo(), 0);
        checks.due(36, "the session is gone", x.sessions(), 0);
    }

    private static void wholeState() {
        ReplicaSessions x = store();
        x.save();
        x.read(0, 0);
        x.drop(0);
        x.close(1);
        x.write(0, 0, 500);
        x.write(0, 1, 501);
        x.save();
        for (int i = 0; i < 5; i++) {
            x.undo();
        }
        checks.due(36, "the length", x.length(), 3);
        checks.due(36, "the position", x.position(0), 1);
        checks.due(36, "the sessions", x.sessions(), 3);
        checks.due(36, "no answer", x.answers(0), 0);
        checks.due(36, "no latest read", x.latest(1), -6);
        checks.due(37, "the saved state is not undone", x.restore(), 5);
        checks.due(38, "the second save counts", x.logged(5, 1), 501);
    }

    private static void countsOfReads() {
        ReplicaSessions x = new ReplicaSessions();
        x.addReplica(0, -6);
        x.open(9, 0, 0);
        x.write(0, 0, 1);
        x.read(0, 0);
        x.undo();
        x.readAt(0, 0, 0);
        checks.due(36, "the undone read does not count", x.session(0, 6), 1);
        checks.due(36, "the write is undone by the read", x.session(0, 7), 1);
        checks.due(36, "nothing was read before", x.session(0, 8), 0);
        x.undo();
        x.undo();
        checks.due(36, "the length", x.length(), 0);
        x.open(9, 0, 0);
        x.write(1, 0, 2);
        x.readAt(0, 0, 0);
        checks.due(36, "the undone write does not count", x.session(0, 7), 0);
    }

    private static void logAndLatestRead() {
        ReplicaSessions x = new ReplicaSessions();
        x.addReplica(1, -6);
        x.open(0, 1, 20);
        x.open(9, 0, 0);
        x.write(0, 3, 7);
        x.write(1, 4, 8);
        x.read(0, 3);
        x.readAt(1, 4, 9);
        x.readAt(1, 4, 0);
        x.save();
        x.undo();
        x.undo();
        x.undo();
        x.undo();
        x.undo();
        checks.due(36, "an empty log", x.length(), 0);
        x.write(1, 5, 17);
        x.readAt(0, 5, 9);
        x.restore();
        checks.due(38, "the key", x.logged(1, 0), 3);
        checks.due(38, "the value", x.logged(1, 1), 7);
        checks.due(38, "the session", x.logged(1, 2), 0);
        checks.due(38, "the place that answered", x.latest(0), 0);
        checks.due(38, "the version", x.latest(1), 0);
        checks.due(38, "the read that undid a write", x.session(1, 7), 1);
        checks.due(38, "the read that went back", x.session(1, 8), 1);
        checks.due(38, "the answers of the replica", x.answers(0), 2);
        checks.due(38, "the answers of the primary", x.answers(9), 1);
        x.undo();
        checks.due(38, "the key", x.logged(1, 0), 5);
        checks.due(38, "the value", x.logged(1, 1), 17);
        checks.due(38, "the session", x.logged(1, 2), 1);
        checks.due(38, "the place that answered", x.latest(0), 9);
        checks.due(38, "the version", x.latest(1), 1);
        checks.due(38, "no read undid a write", x.session(1, 7), 0);
        checks.due(38, "no read went back", x.session(1, 8), 0);
        x = store();
        x.read(0, 0);
        x.readAt(1, 1, 9);
        x.undo();
        checks.due(36, "the version", x.latest(1), 3);
        checks.due(36, "the ticks", x.latest(2), 2);
    }

    private static void savedState() {
        ReplicaSessions x = store();
        checks.due(38, "nothing is saved", x.restore(), -3);
        checks.due(37, "save", x.save(), 3);
        x.write(0, 0, 9);
        x.drop(0);
        x.open(9, 0, 0);
        Checks.type(x, "t1");
        checks.due(38, "restore", x.restore(), 3);
        checks.due(38, "the replica", x.position(0), 1);
        checks.due(38, "the sessions", x.sessions(), 3);
        checks.due(38, "the buffer stays", x.clearText(), 2);
        x.write(0, 0, 9);
        checks.due(38, "it remains saved", x.restore(), 3);
        x.write(0, 0, 8);
        checks.due(37, "save again", x.save(), 4);
        x.write(0, 0, 7);
        checks.due(38, "the later one", x.restore(), 4);
        checks.due(38, "its write", x.value(9, 0), 8);
    }

    private static void restoreAndUndo() {
        ReplicaSessions x = store();
        x.save();
        x.write(0, 5, 100);
        x.write(0, 6, 101);
        x.restore();
        checks.due(38, "restore is undoable", x.undo(), 4);
        checks.due(38, "the length", x.length(), 5);
        checks.due(38, "the write", x.logged(5, 0), 6);
        x.restore();
        x.write(1, 7, 200);
        x.undo();
        x.undo();
        checks.due(38, "the other log comes back", x.logged(4, 1), 100);
        checks.due(38, "it is still saved", x.restore(), 3);
        checks.due(38, "a state is recorded without a difference", x.restore(), 3);
        x.undo();
        checks.due(38, "the first restore is not undone", x.length(), 3);
    }
}
