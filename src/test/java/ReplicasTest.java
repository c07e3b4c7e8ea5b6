/** Promises 1 to 9. */
public final class ReplicasTest {
    private static final Checks checks = new Checks();

    public static void main(String[] args) {
        newObject();
        newReplicas();
        wrongReplicas();
        droppedReplicas();
        rates();
        stoppedReplicas();
        jumps();
        ticks();
        aboutReplicas();
        checks.finish();
    }

    private static void newObject() {
        ReplicaSessions x = new ReplicaSessions();
        checks.due(1, "length", x.length(), 0);
        checks.due(1, "replicas", x.replicas(), 0);
        checks.due(1, "sessions", x.sessions(), 0);
        checks.due(1, "position of the primary", x.position(9), 0);
        checks.due(1, "answers of the primary", x.answers(9), 0);
        checks.due(1, "latest", x.latest(0), -6);
        checks.due(1, "undo", x.undo(), -3);
        checks.due(1, "restore", x.restore(), -3);
        checks.due(1, "clearText", x.clearText(), 0);
        ReplicaSessions other = new ReplicaSessions();
        other.addReplica(1, -6);
        other.open(9, 0, 0);
        other.write(0, 0, 0);
        other.append('t');
        checks.due(1, "length beside another object", x.length(), 0);
        checks.due(1, "replicas beside another object", x.replicas(), 0);
        checks.due(1, "sessions beside another object", x.sessions(), 0);
        checks.due(1, "clearText beside another object", x.clearText(), 0);
    }

    private static void newReplicas() {
        ReplicaSessions x = new ReplicaSessions();
        x.open(9, 0, 0);
        Checks.writeMany(x, 6);
        checks.due(2, "from the beginning", x.addReplica(2, -6), 0);
        checks.due(2, "its position", x.position(0), 0);
        checks.due(2, "its rate", x.replica(0, 0), 2);
        checks.due(2, "is not stopped", x.replica(0, 1), 0);
        checks.due(2, "like the primary", x.addReplica(0, 9), 1);
        checks.due(2, "its position", x.position(1), 6);
        x.tick(2);
        checks.due(2, "like a replica", x.addReplica(9, 0), 2);
        checks.due(2, "its position", x.position(2), 4);
        x.addReplica(0, -6);
        x.addReplica(0, -6);
        checks.due(2, "five replicas", x.replicas(), 31);
        x.stop(3, true);
        x.drop(1);
        x.drop(3);
        checks.due(2, "the lowest free number", x.addReplica(1, 9), 1);
        checks.due(2, "the next free number", x.addReplica(1, 9), 3);
        checks.due(2, "is not stopped after a stopped one", x.replica(3, 1), 0);
    }

    private static void wrongReplicas() {
        ReplicaSessions x = new ReplicaSessions();
        for (int like : new int[] {0, 4, 5, 8, 10, -1, -5, -7, Integer.MAX_VALUE, Integer.MIN_VALUE}) {
            checks.due(2, "like " + like, x.addReplica(10, like), -1);
        }
        for (int rate : new int[] {-1, 10, Integer.MAX_VALUE, Integer.MIN_VALUE}) {
            checks.due(2, "rate " + rate, x.addReplica(rate, -6), -2);
            checks.due(2, "rate " + rate, x.addReplica(rate, 9), -2);
        }
        checks.due(2, "nothing changed", x.replicas(), 0);
        for (int i = 0; i < 5; i++) {
            checks.due(2, "there is room", x.addReplica(9, -6), i);
        }
        checks.due(2, "like is looked at first", x.addReplica(10, 5), -1);
        checks.due(2, "rate is looked at before the room", x.addReplica(10, 4), -2);
        checks.due(2, "a sixth replica", x.addReplica(9, 4), -4);
        checks.due(2, "a sixth replica from the beginning", x.addReplica(0, -6), -4);
    }

    private static void droppedReplicas() {
        ReplicaSessions x = new ReplicaSessions();
        x.addReplica(1, -6);
        x.addReplica(1, -6);
        x.open(1, 0, 0);
        x.open(0, 0, 0);
        x.open(1, 0, 0);
        x.open(1, 0, 0);
        x.open(9, 0, 0);
        x.close(3);
        checks.due(3, "drop a home of two", x.drop(1), 2);
        checks.due(3, "the home is the primary", x.session(0, 0), 9);
        checks.due(3, "another home stays", x.session(1, 0), 0);
        checks.due(3, "the home is the primary", x.session(2, 0), 9);
        checks.due(3, "the replica is gone", x.replicas(), 1);
        checks.due(3, "it has no position", x.position(1), -1);
        checks.due(3, "drop it again", x.drop(1), -1);
        checks.due(3, "its number is free", x.addReplica(1, -6), 1);
        checks.due(3, "the home stays the primary", x.session(0, 0), 9);
        checks.due(3, "drop a home of none", x.drop(1), 0);
        for (int number : new int[] {-1, 2, 5, 9, -6, Integer.MAX_VALUE, Integer.MIN_VALUE}) {
            checks.due(3, "drop " + number, x.drop(number), -1);
        }
    }

    private static void rates() {
        ReplicaSessions x = new ReplicaSessions();
        x.addReplica(3, -6);
        checks.due(4, "setRate", x.setRate(0, 9), 3);
        checks.due(4, "setRate", x.setRate(0, 0), 9);
        checks.due(4, "setRate", x.setRate(0, 5), 0);
        checks.due(4, "the rate then", x.replica(0, 0), 5);
        checks.due(4, "no such replica is looked at first", x.setRate(1, 10), -1);
        checks.due(4, "the primary has no rate", x.setRate(9, 1), -1);
        checks.due(4, "number -1", x.setRate(-1, 1), -1);
        checks.due(4, "number 5", x.setRate(5, 1), -1);
        checks.due(4, "rate 10", x.setRate(0, 10), -2);
        checks.due(4, "rate -1", x.setRate(0, -1), -2);
        checks.due(4, "nothing changed", x.replica(0, 0), 5);
    }

    private static void stoppedReplicas() {
        ReplicaSessions x = new ReplicaSessions();
        x.open(9, 0, 0);
        x.addReplica(3, -6);
        x.addReplica(3, -6);
        Checks.writeMany(x, 20);
        checks.due(5, "stop", x.stop(0, true), 0);
        checks.due(5, "stop again", x.stop(0, true), 1);
        x.tick(1);
        checks.due(5, "a stopped one stays", x.position(0), 0);
        checks.due(5, "another one goes on", x.position(1), 3);
        checks.due(5, "let go on", x.stop(0, false), 1);
        checks.due(5, "let go on again", x.stop(0, false), 0);
        x.tick(2);
        checks.due(5, "it goes on", x.position(0), 6);
        checks.due(5, "no such replica", x.stop(2, true), -1);
        checks.due(5, "the primary", x.stop(9, true), -1);
        checks.due(5, "number -1", x.stop(-1, false), -1);
        checks.due(5, "number 5", x.stop(5, false), -1);
    }

    private static void jumps() {
        ReplicaSessions x = new ReplicaSessions();
        x.open(9, 0, 0);
        Checks.writeMany(x, 9);
        x.addReplica(0, 9);
        checks.due(6, "to where it is", x.jumpBack(0, 9), 9);
        checks.due(6, "back", x.jumpBack(0, 4), 9);
        checks.due(6, "the position then", x.position(0), 4);
        checks.due(6, "forth", x.jumpBack(0, 5), -2);
        checks.due(6, "ahead of the beginning", x.jumpBack(0, -1), -2);
        checks.due(6, "nothing changed", x.position(0), 4);
        checks.due(6, "to the beginning", x.jumpBack(0, 0), 4);
        checks.due(6, "from the beginning", x.jumpBack(0, 0), 0);
        checks.due(6, "no such replica is looked at first", x.jumpBack(1, -1), -1);
        checks.due(6, "the primary", x.jumpBack(9, 0), -1);
        checks.due(6, "number -1", x.jumpBack(-1, 0), -1);
        checks.due(6, "number 5", x.jumpBack(5, 0), -1);
        x.stop(0, true);
        checks.due(6, "a stopped one", x.jumpBack(0, 0), 0);
    }

    private static void ticks() {
        ReplicaSessions x = new ReplicaSessions();
        checks.due(7, "without replicas", x.tick(99), 0);
        x.addReplica(2, -6);
        x.addReplica(9, -6);
        x.addReplica(0, -6);
        checks.due(7, "with an empty log", x.tick(1), 3);
        x.open(9, 0, 0);
        Checks.writeMany(x, 10);
        checks.due(7, "tick", x.tick(1), 0);
        checks.due(7, "position", x.position(0), 2);
        checks.due(7, "position", x.position(1), 9);
        checks.due(7, "tick", x.tick(1), 1);
        checks.due(7, "not beyond the length", x.position(1), 10);
        checks.due(7, "tick", x.tick(2), 1);
        checks.due(7, "position", x.position(0), 8);
        x.stop(1, true);
        checks.due(7, "a stopped one counts too", x.tick(99), 2);
        checks.due(7, "rate 0", x.position(2), 0);
        for (int count : new int[] {0, -1, 100, Integer.MAX_VALUE, Integer.MIN_VALUE}) {
            checks.due(7, "ticks " + count, x.tick(count), -2);
        }
    }

    private static void aboutReplicas() {
        ReplicaSessions x = new ReplicaSessions();
        for (int i = 0; i < 5; i++) {
            x.addReplica(i + 5, -6);
            checks.due(8, "replicas", x.replicas(), (2 << i) - 1);
        }
        x.drop(0);
        x.drop(3);
        checks.due(8, "replicas without 0 and 3", x.replicas(), 22);
        x.open(4, 0, 0);
        x.open(4, 0, 0);
        x.open(9, 0, 0);
        x.stop(4, true);
        checks.due(9, "rate", x.replica(4, 0), 9);
        checks.due(9, "stopped", x.replica(4, 1), 1);
        checks.due(9, "not stopped", x.replica(2, 1), 0);
        checks.due(9, "home of two", x.replica(4, 2), 2);
        checks.due(9, "home of none", x.replica(2, 2), 0);
        x.close(0);
        checks.due(9, "home of one", x.replica(4, 2), 1);
        checks.due(9, "part 3", x.replica(4, 3), -2);
        checks.due(9, "part -1", x.replica(4, -1), -2);
        checks.due(9, "no such replica is looked at first", x.replica(3, 3), -1);
        checks.due(9, "the primary", x.replica(9, 0), -1);
        checks.due(9, "number -1", x.replica(-1, 0), -1);
        checks.due(9, "number 5", x.replica(5, 0), -1);
    }
}
