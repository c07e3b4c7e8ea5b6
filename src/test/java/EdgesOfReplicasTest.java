/** Promises 1 to 16, and the terms log, places and ticks: the edges that their sentences name. */
public final class EdgesOfReplicasTest {
    private static final Checks checks = new Checks();

    public static void main(String[] args) {
        nothingInANewObject();
        sixthReplica();
        likeEachPlace();
        lowestFreeNumber();
        droppedHomes();
        edgesOfRates();
        stoppedAtTheEdges();
        jumpsWithinThePosition();
        notBeyondTheLength();
        noneAndAllCaughtUp();
        mostTicks();
        masksOfReplicas();
        partsOfReplicas();
        firstAndLastWrite();
        versionsAtTheEdgeOfAWrite();
        firstAndLastKey();
        nothingAndAllMissing();
        forgottenAnswers();
        checks.finish();
    }

    private static ReplicaSessions withWrites(int writes) {
        ReplicaSessions x = new ReplicaSessions();
        x.open(9, 0, 0);
        Checks.writeMany(x, writes);
        return x;
    }

    /** "an empty log, without replicas and sessions" */
    private static void nothingInANewObject() {
        ReplicaSessions x = new ReplicaSessions();
        for (int replica = 0; replica < 5; replica++) {
            checks.due(1, "replica " + replica, x.replica(replica, 0), -1);
            checks.due(1, "position of " + replica, x.position(replica), -1);
        }
        for (int session = 0; session < 8; session++) {
            checks.due(1, "session " + session, x.session(session, 0), -1);
        }
        for (int key = 0; key < 12; key++) {
            checks.due(1, "version of key " + key, x.version(9, key), 0);
            checks.due(1, "value of key " + key, x.value(9, key), -6);
            checks.due(1, "missing of key " + key, x.missing(9, key), 0);
        }
        for (int part = 0; part < 3; part++) {
            checks.due(1, "part " + part + " of the latest read", x.latest(part), -6);
            checks.due(1, "part " + part + " of the first write", x.logged(1, part), -1);
        }
        checks.due(1, "errorPosition", x.errorPosition(), 0);
        checks.due(1, "execute", x.execute(), -5);
        checks.due(1, "save", x.save(), 0);
        checks.due(1, "the constructor records no state", x.undo(), -3);
    }

    /** "LIMIT if there are 5 replicas" */
    private static void sixthReplica() {
        ReplicaSessions x = withWrites(1);
        for (int replica = 0; replica < 4; replica++) {
            x.addReplica(0, -6);
        }
        checks.due(2, "the fifth", x.addReplica(0, -6), 4);
        checks.due(2, "the sixth", x.addReplica(0, -6), -4);
        checks.due(2, "five are there", x.replicas(), 31);
        x.drop(2);
        checks.due(2, "the fifth again", x.addReplica(0, -6), 2);
        checks.due(2, "the sixth again", x.addReplica(0, -6), -4);
        x.undo();
        checks.due(2, "one place after an undo", x.addReplica(0, 9), 2);
        checks.due(2, "its position", x.position(2), 1);
    }

    /** "a place whose position the replica begins with, or NONE to begin with the position 0" */
    private static void likeEachPlace() {
        ReplicaSessions x = new ReplicaSessions();
        x.addReplica(1, 9);
        checks.due(2, "like the primary of an empty log", x.position(0), 0);
        x.open(9, 0, 0);
        Checks.writeMany(x, 200);
        x.addReplica(1, 9);
        checks.due(2, "like the primary of a full log", x.position(1), 200);
        x.stop(1, true);
        x.jumpBack(1, 150);
        x.addReplica(1, 1);
        checks.due(2, "like a stopped replica", x.position(2), 150);
        checks.due(2, "it is not stopped", x.replica(2, 1), 0);
        x.addReplica(1, 0);
        checks.due(2, "like a replica at the beginning", x.position(3), 0);
        x.addReplica(1, -6);
        checks.due(2, "like none", x.position(4), 0);
        x.tick(1);
        checks.due(2, "one of those goes on alone", x.position(1), 150);
        checks.due(2, "the other one too", x.position(2), 151);
    }

    /** "new ones get the lowest free number" */
    private static void lowestFreeNumber() {
        for (int dropped = 0; dropped < 5; dropped++) {
            ReplicaSessions x = Stores.full();
            x.drop(dropped);
            checks.due(2, "the number " + dropped + " is free", x.addReplica(9, -6), dropped);
            checks.due(2, "no other one is", x.addReplica(9, -6), -4);
            x.drop(4);
            x.drop(dropped == 4 ? 0 : dropped);
            checks.due(2, "the lower of two", x.addReplica(0, -6), dropped == 4 ? 0 : dropped);
            checks.due(2, "the greater of two", x.addReplica(0, -6), 4);
        }
    }

    /** "the primary becomes the home of the sessions whose home it was"; none, and all eight. */
    private static void droppedHomes() {
        ReplicaSessions x = new ReplicaSessions();
        x.addReplica(0, -6);
        checks.due(3, "without sessions", x.drop(0), 0);
        checks.due(3, "no replica is left", x.replicas(), 0);
        x.addReplica(0, -6);
        for (int session = 0; session < 8; session++) {
            x.open(0, 0, 0);
        }
        checks.due(3, "with all eight", x.drop(0), 8);
        for (int session = 0; session < 8; session++) {
            checks.due(3, "the home of " + session, x.session(session, 0), 9);
        }
        x.addReplica(0, -6);
        checks.due(3, "a new one is nobody's home", x.drop(0), 0);
        for (int replica = 0; replica < 5; replica++) {
            x = Stores.full();
            checks.due(3, "one of five", x.drop(replica), 1);
            checks.due(3, "the others stay", x.replicas(), 31 - (1 << replica));
        }
    }

    private static void edgesOfRates() {
        ReplicaSessions x = withWrites(20);
        for (int rate = 0; rate <= 9; rate++) {
            ReplicaSessions y = withWrites(20);
            y.addReplica(rate, -6);
            checks.due(2, "the rate " + rate, y.replica(0, 0), rate);
            y.tick(1);
            checks.due(7, "a tick with the rate " + rate, y.position(0), rate);
        }
        x.addReplica(9, -6);
        checks.due(4, "to the least", x.setRate(0, 0), 9);
        checks.due(4, "to the most", x.setRate(0, 9), 0);
        checks.due(4, "to the same", x.setRate(0, 9), 9);
        checks.due(4, "beyond the most", x.setRate(0, 10), -2);
        checks.due(4, "below the least", x.setRate(0, -1), -2);
        x.tick(1);
        checks.due(4, "the most stays", x.position(0), 9);
        x.stop(0, true);
        checks.due(4, "of a stopped one", x.setRate(0, 3), 9);
        checks.due(4, "it stays stopped", x.replica(0, 1), 1);
    }

    private static void stoppedAtTheEdges() {
        ReplicaSessions x = withWrites(3);
        for (int replica = 0; replica < 5; replica++) {
            x.addReplica(9, -6);
        }
        checks.due(5, "stop the first", x.stop(0, true), 0);
        checks.due(5, "stop the last", x.stop(4, true), 0);
        checks.due(7, "three of five go on", x.tick(99), 3);
        checks.due(5, "the first stays at the beginning", x.position(0), 0);
        checks.due(5, "the last stays at the beginning", x.position(4), 0);
        checks.due(5, "stop at the end of the log", x.stop(1, true), 0);
        x.write(0, 0, 0);
        checks.due(7, "it stays where it was", x.tick(1), 2);
        checks.due(5, "its position", x.position(1), 3);
        checks.due(5, "let the last go on", x.stop(4, false), 1);
        checks.due(7, "it goes on", x.tick(1), 3);
        checks.due(5, "the first is still stopped", x.stop(0, false), 1);
    }

    /** "0 to the position of the replica" */
    private static void jumpsWithinThePosition() {
        ReplicaSessions x = withWrites(200);
        x.addReplica(1, -6);
        checks.due(6, "from the beginning to it", x.jumpBack(0, 0), 0);
        checks.due(6, "from the beginning beyond it", x.jumpBack(0, 1), -2);
        x.tick(1);
        checks.due(6, "to its position", x.jumpBack(0, 1), 1);
        checks.due(6, "one beyond its position", x.jumpBack(0, 2), -2);
        checks.due(6, "one below the beginning", x.jumpBack(0, -1), -2);
        x.addReplica(0, 9);
        checks.due(6, "one beyond the log", x.jumpBack(1, 201), -2);
        checks.due(6, "to the end of the log", x.jumpBack(1, 200), 200);
        checks.due(6, "one back", x.jumpBack(1, 199), 200);
        checks.due(6, "forth again", x.jumpBack(1, 200), -2);
        checks.due(6, "all the way back", x.jumpBack(1, 0), 199);
        checks.due(6, "the other one stays", x.position(0), 1);
    }

    /** "but not beyond the length of the log" */
    private static void notBeyondTheLength() {
        for (int writes = 17; writes <= 19; writes++) {
            ReplicaSessions x = withWrites(writes);
            x.addReplica(9, -6);
            checks.due(7, "two ticks with " + writes, x.tick(2), writes <= 18 ? 1 : 0);
            checks.due(7, "the position of " + writes, x.position(0), Math.min(writes, 18));
            x.tick(1);
            checks.due(7, "the position of " + writes, x.position(0), writes);
            checks.due(7, "at the length", x.tick(99), 1);
            checks.due(7, "the position stays", x.position(0), writes);
        }
        ReplicaSessions x = new ReplicaSessions();
        x.addReplica(9, -6);
        checks.due(7, "with an empty log", x.tick(99), 1);
        checks.due(7, "the beginning is its end", x.position(0), 0);
    }

    private static void noneAndAllCaughtUp() {
        ReplicaSessions x = withWrites(10);
        checks.due(7, "no replica", x.tick(1), 0);
        for (int replica = 0; replica < 5; replica++) {
            x.addReplica(5 + replica, -6);
        }
        checks.due(7, "none of five", x.tick(1), 0);
        checks.due(7, "all five", x.tick(1), 5);
        x.write(0, 0, 0);
        x.stop(4, true);
        checks.due(7, "all but a stopped one", x.tick(1), 4);
        x.drop(0);
        checks.due(7, "a dropped one does not count", x.tick(1), 3);
    }

    /** "1 to 99" */
    private static void mostTicks() {
        ReplicaSessions x = withWrites(200);
        x.addReplica(1, -6);
        x.addReplica(2, -6);
        x.addReplica(9, -6);
        checks.due(7, "no tick", x.tick(0), -2);
        checks.due(7, "a hundred ticks", x.tick(100), -2);
        checks.due(7, "nothing happened", x.position(2), 0);
        checks.due(7, "one tick", x.tick(1), 0);
        checks.due(7, "its position", x.position(0), 1);
        checks.due(7, "99 ticks", x.tick(99), 2);
        checks.due(7, "at rate 1", x.position(0), 100);
        checks.due(7, "at rate 2", x.position(1), 200);
        checks.due(7, "at rate 9", x.position(2), 200);
        checks.due(7, "99 ticks more", x.tick(99), 2);
        checks.due(7, "one is missing", x.position(0), 199);
        checks.due(7, "the last tick", x.tick(1), 3);
    }

    private static void masksOfReplicas() {
        for (int replica = 0; replica < 5; replica++) {
            ReplicaSessions x = Stores.full();
            checks.due(8, "all of them", x.replicas(), 31);
            for (int dropped = 0; dropped < 5; dropped++) {
                if (dropped != replica) {
                    x.drop(dropped);
                }
            }
            checks.due(8, "one alone", x.replicas(), 1 << replica);
            x.drop(replica);
            checks.due(8, "none", x.replicas(), 0);
        }
    }

    private static void partsOfReplicas() {
        ReplicaSessions x = new ReplicaSessions();
        x.addReplica(0, -6);
        checks.due(9, "the least rate", x.replica(0, 0), 0);
        checks.due(9, "without sessions", x.replica(0, 2), 0);
        for (int session = 0; session < 8; session++) {
            x.open(0, 0, 0);
        }
        checks.due(9, "with all eight", x.replica(0, 2), 8);
        x.move(7, 9);
        checks.due(9, "after a move away", x.replica(0, 2), 7);
        x.close(0);
        checks.due(9, "after a close", x.replica(0, 2), 6);
        x.move(7, 0);
        checks.due(9, "after a move back", x.replica(0, 2), 7);
        x.drop(0);
        x.addReplica(0, -6);
        checks.due(9, "a new one with its number", x.replica(0, 2), 0);
    }

    /** "1 to the length of the log", "at most 200 writes", "The writes are numbered from 1." */
    private static void firstAndLastWrite() {
        ReplicaSessions x = withWrites(0);
        checks.due(10, "no write", x.length(), 0);
        checks.due(11, "the first of none", x.logged(1, 0), -1);
        x.write(0, 11, 999);
        checks.due(10, "one write", x.length(), 1);
        checks.due(11, "ahead of the first", x.logged(0, 0), -1);
        checks.due(11, "the first", x.logged(1, 1), 999);
        checks.due(11, "behind the first", x.logged(2, 0), -1);
        Checks.writeMany(x, 198);
        checks.due(10, "199 writes", x.length(), 199);
        checks.due(11, "one that is still missing", x.logged(200, 0), -1);
        checks.due(24, "the last write", x.write(0, 10, 7), 200);
        checks.due(11, "its key", x.logged(200, 0), 10);
        checks.due(11, "its value", x.logged(200, 1), 7);
        checks.due(24, "beyond the last write", x.write(0, 9, 8), -4);
        checks.due(10, "200 writes", x.length(), 200);
        checks.due(11, "it stays", x.logged(200, 0), 10);
        checks.due(11, "none behind it", x.logged(201, 0), -1);
        checks.due(12, "the primary is at the last one", x.position(9), 200);
        x.undo();
        checks.due(11, "the undone one is gone", x.logged(200, 0), -1);
    }

    /** "the latest write of this key among the first writes up to this position, 0 if there is none" */
    private static void versionsAtTheEdgeOfAWrite() {
        ReplicaSessions x = withWrites(0);
        x.write(0, 1, 10);
        x.write(0, 2, 20);
        x.write(0, 1, 30);
        x.addReplica(0, 9);
        int[] versions = {0, 1, 1, 3};
        int[] missing = {2, 1, 1, 0};
        int[] values = {-6, 10, 10, 30};
        for (int position = 3; position >= 0; position--) {
            x.jumpBack(0, position);
            checks.due(12, "the position", x.position(0), position);
            checks.due(13, "the version at " + position, x.version(0, 1), versions[position]);
            checks.due(14, "the value at " + position, x.value(0, 1), values[position]);
            checks.due(15, "the missing ones at " + position, x.missing(0, 1), missing[position]);
            checks.due(13, "of another key at " + position, x.version(0, 2), position >= 2 ? 2 : 0);
            checks.due(15, "of another key at " + position, x.missing(0, 2), position >= 2 ? 0 : 1);
            checks.due(13, "of a key without writes", x.version(0, 0), 0);
            checks.due(13, "at the primary", x.version(9, 1), 3);
        }
    }

    /** "There are 12 keys, 0 to 11", "a value from 0 to 999" */
    private static void firstAndLastKey() {
        ReplicaSessions x = withWrites(0);
        x.write(0, 0, 999);
        x.write(0, 11, 0);
        checks.due(13, "the first key", x.version(9, 0), 1);
        checks.due(13, "the last key", x.version(9, 11), 2);
        checks.due(14, "the most value", x.value(9, 0), 999);
        checks.due(14, "the least value is not none", x.value(9, 11), 0);
        checks.due(13, "ahead of the first key", x.version(9, -1), -1);
        checks.due(13, "behind the last key", x.version(9, 12), -1);
        checks.due(14, "ahead of the first key", x.value(9, -1), -1);
        checks.due(14, "behind the last key", x.value(9, 12), -1);
        checks.due(15, "ahead of the first key", x.missing(9, -1), -1);
        checks.due(15, "behind the last key", x.missing(9, 12), -1);
        for (int key = 1; key < 11; key++) {
            checks.due(14, "none of key " + key, x.value(9, key), -6);
        }
    }

    private static void nothingAndAllMissing() {
        ReplicaSessions x = withWrites(200);
        x.addReplica(1, -6);
        checks.due(15, "all 200", x.missing(0, 0), 200);
        x.tick(99);
        x.tick(99);
        checks.due(15, "the last two", x.missing(0, 0), 2);
        x.tick(1);
        checks.due(15, "the last one", x.missing(0, 0), 1);
        x.tick(1);
        checks.due(15, "none", x.missing(0, 0), 0);
        checks.due(15, "none of another key", x.missing(0, 11), 0);
        checks.due(15, "the primary misses none", x.missing(9, 0), 0);
    }

    /** "For a number of a replica that is dropped the answers are forgotten." */
    private static void forgottenAnswers() {
        ReplicaSessions x = new ReplicaSessions();
        x.addReplica(0, -6);
        x.addReplica(0, -6);
        x.open(0, 0, 0);
        x.read(0, 0);
        x.readAt(0, 0, 1);
        x.readAt(0, 0, 1);
        checks.due(16, "an answer with the version 0 is one", x.answers(0), 1);
        x.close(0);
        checks.due(16, "those to a closed session stay", x.answers(1), 2);
        x.drop(0);
        checks.due(16, "a dropped one", x.answers(0), -1);
        checks.due(16, "the other one", x.answers(1), 2);
        x.addReplica(0, 1);
        checks.due(16, "a new one, like another", x.answers(0), 0);
        x.undo();
        x.undo();
        checks.due(16, "the drop is undone", x.answers(0), 1);
    }
}
