/** Stores to begin a test with: where nothing is there, something, and all places are taken. */
final class Stores {
    static final String USUAL_TEXT = "w0:3=5;r0:3;t0;t1";

    private Stores() {
    }

    static ReplicaSessions empty() {
        return new ReplicaSessions();
    }

    /** One replica and two sessions; three recorded states, so that an undo may find none; nothing saved. */
    static ReplicaSessions small() {
        ReplicaSessions x = new ReplicaSessions();
        x.addReplica(1, -6);
        x.open(0, 1, 0);
        x.open(9, 0, 20);
        Checks.type(x, "t1;");
        return x;
    }

    /**
     * Replicas 0 to 2 and sessions 0 to 3 that differ in all that can differ; more than five calls
     * that record a state; a saved state that is not the current one; a text in the buffer whose
     * third command is refused.
     */
    static ReplicaSessions usual() {
        ReplicaSessions x = new ReplicaSessions();
        x.addReplica(1, -6);
        x.addReplica(0, -6);
        x.addReplica(9, -6);
        x.open(1, 0, 0);
        x.open(0, 7, 3);
        x.open(9, 11, 20);
        x.open(1, 3, 20);
        x.write(0, 0, 10);
        x.write(1, 1, 20);
        x.write(0, 2, 30);
        x.tick(1);
        x.readAt(0, 0, 9);
        x.readAt(0, 2, 1);
        x.save();
        x.write(3, 0, 40);
        x.write(1, 1, 50);
        x.write(2, 11, 999);
        x.stop(2, true);
        x.read(2, 1);
        x.readAt(0, 0, 1);
        x.hand(2, 1);
        Checks.type(x, USUAL_TEXT);
        return x;
    }

    /** Five replicas, eight sessions, 200 writes, 80 characters, five recorded states, a saved one. */
    static ReplicaSessions full() {
        ReplicaSessions x = new ReplicaSessions();
        for (int replica = 0; replica < 5; replica++) {
            x.addReplica(replica, -6);
        }
        for (int session = 0; session < 8; session++) {
            x.open(session < 5 ? session : 9, 15 - session, 2 * session);
        }
        x.save();
        for (int i = 0; i < 200; i++) {
            x.write(i % 8, i % 11, i);
        }
        x.tick(3);
        Checks.type(x, "t1;".repeat(26) + "t1");
        return x;
    }
}
