/** Promises 28 to 31. */
public final class PredictionsTest {
    private static final Checks checks = new Checks();

    public static void main(String[] args) {
        waits();
        sharpWaits();
        wrongWaits();
        bestReplicas();
        keysAfterTicks();
        catchingUp();
        nothingChanges();
        checks.finish();
    }

    private static void waits() {
        ReplicaSessions x = new ReplicaSessions();
        x.open(9, 1, 0);
        x.addReplica(2, -6);
        x.addReplica(0, -6);
        x.addReplica(9, -6);
        checks.due(28, "nothing is needed", x.waitFor(0, 0, 1), 0);
        Checks.writeMany(x, 5);
        checks.due(28, "rounded up", x.waitFor(0, 0, 0), 3);
        checks.due(28, "one tick", x.waitFor(0, 0, 2), 1);
        checks.due(28, "rate 0", x.waitFor(0, 0, 1), -6);
        checks.due(28, "the primary", x.waitFor(0, 0, 9), 0);
        x.tick(1);
        checks.due(28, "after a tick", x.waitFor(0, 0, 0), 2);
        checks.due(28, "no wait", x.waitFor(0, 0, 2), 0);
        x.stop(0, true);
        x.stop(2, true);
        checks.due(28, "stopped", x.waitFor(0, 0, 0), -6);
        checks.due(28, "stopped where it can answer", x.waitFor(0, 0, 2), 0);
        x.stop(0, false);
        x.write(0, 0, 0);
        checks.due(28, "exact", x.waitFor(0, 0, 0), 2);
        x.change(0, 2, 0);
        checks.due(28, "nothing was seen", x.waitFor(0, 0, 0), 0);
        x.readAt(0, 0, 9);
        checks.due(28, "what was seen", x.waitFor(0, 0, 0), 2);
    }

    private static void sharpWaits() {
        ReplicaSessions x = new ReplicaSessions();
        x.open(9, 5, 0);
        x.addReplica(1, -6);
        x.write(0, 1, 0);
        x.write(0, 2, 0);
        x.write(0, 1, 0);
        x.write(0, 3, 0);
        x.open(9, 0, 0);
        x.write(1, 2, 0);
        checks.due(28, "key 1", x.waitFor(0, 1, 0), 3);
        checks.due(28, "key 2, a later write is not needed", x.waitFor(0, 2, 0), 2);
        checks.due(28, "key 3", x.waitFor(0, 3, 0), 4);
        checks.due(28, "key 0", x.waitFor(0, 0, 0), 0);
        x.change(0, 1, 0);
        checks.due(28, "without SHARP", x.waitFor(0, 0, 0), 4);
    }

    private static void wrongWaits() {
        ReplicaSessions x = new ReplicaSessions();
        x.open(9, 1, 0);
        x.addReplica(0, -6);
        x.write(0, 0, 0);
        for (int number : new int[] {-1, 1, 8, Integer.MAX_VALUE, Integer.MIN_VALUE}) {
            checks.due(28, "session " + number, x.waitFor(number, 0, 0), -1);
            checks.due(29, "session " + number, x.bestReplica(number, 0), -1);
            checks.due(30, "session " + number, x.keysAfter(number, 0, 100), -1);
        }
        for (int key : new int[] {-1, 12, Integer.MAX_VALUE, Integer.MIN_VALUE}) {
            checks.due(28, "key " + key, x.waitFor(0, key, 0), -1);
            checks.due(29, "key " + key, x.bestReplica(0, key), -1);
        }
        for (int place : new int[] {-1, 1, 5, 8, 10, -6, Integer.MAX_VALUE, Integer.MIN_VALUE}) {
            checks.due(28, "place " + place, x.waitFor(0, 0, place), -1);
            checks.due(30, "place " + place, x.keysAfter(0, place, 100), -1);
        }
        for (int ticks : new int[] {-1, 100, Integer.MAX_VALUE, Integer.MIN_VALUE}) {
            checks.due(30, "ticks " + ticks, x.keysAfter(0, 0, ticks), -2);
            checks.due(30, "ticks " + ticks, x.keysAfter(0, 9, ticks), -2);
        }
    }

    private static void bestReplicas() {
        ReplicaSessions x = new ReplicaSessions();
        x.open(9, 5, 0);
        checks.due(29, "no replica", x.bestReplica(0, 0), -6);
        x.addReplica(0, -6);
        checks.due(29, "it can answer", x.bestReplica(0, 0), 0);
        for (int i = 0; i < 6; i++) {
            x.write(0, i % 2, 0);
        }
        checks.due(29, "it never could", x.bestReplica(0, 0), -6);
        checks.due(29, "about another key it can", x.bestReplica(0, 2), 0);
        x.addReplica(1, -6);
        x.addReplica(3, -6);
        x.addReplica(4, -6);
        x.addReplica(2, -6);
        checks.due(29, "key 0 is written last by 5", x.bestReplica(0, 0), 2);
        checks.due(29, "two with the same wait", x.bestReplica(0, 1), 2);
        checks.due(29, "the lowest number with no wait", x.bestReplica(0, 3), 0);
        x.stop(2, true);
        checks.due(29, "one is stopped", x.bestReplica(0, 1), 3);
        x.setRate(4, 9);
        checks.due(29, "the least wait", x.bestReplica(0, 1), 4);
        x.tick(1);
        checks.due(29, "no wait now", x.bestReplica(0, 1), 4);
        x.drop(4);
        checks.due(29, "one is dropped", x.bestReplica(0, 1), 3);
    }

    private static void keysAfterTicks() {
        ReplicaSessions x = new ReplicaSessions();
        x.open(9, 5, 0);
        x.addReplica(1, -6);
        x.addReplica(0, -6);
        for (int key = 0; key < 12; key++) {
            x.write(0, key, 0);
        }
        checks.due(30, "at once", x.keysAfter(0, 0, 0), 0);
        checks.due(30, "after a tick", x.keysAfter(0, 0, 1), 1);
        checks.due(30, "after 11 ticks", x.keysAfter(0, 0, 11), 11);
        checks.due(30, "after 99 ticks", x.keysAfter(0, 0, 99), 12);
        checks.due(30, "rate 0", x.keysAfter(0, 1, 99), 0);
        checks.due(30, "the primary", x.keysAfter(0, 9, 0), 12);
        checks.due(30, "the primary later", x.keysAfter(0, 9, 99), 12);
        x.stop(0, true);
        checks.due(30, "stopped", x.keysAfter(0, 0, 99), 0);
        x.stop(0, false);
        x.tick(4);
        checks.due(30, "after ticks that passed", x.keysAfter(0, 0, 0), 4);
        x.change(0, 1, 0);
        checks.due(30, "without SHARP none", x.keysAfter(0, 0, 7), 0);
        checks.due(30, "without SHARP all", x.keysAfter(0, 0, 8), 12);
        x.change(0, 0, 0);
        checks.due(30, "without a need", x.keysAfter(0, 1, 0), 12);
    }

    private static void catchingUp() {
        ReplicaSessions x = new ReplicaSessions();
        x.open(9, 0, 0);
        checks.due(31, "no replica", x.catchUp(), 0);
        Checks.writeMany(x, 10);
        checks.due(31, "no replica", x.catchUp(), 0);
        x.addReplica(9, -6);
        checks.due(31, "rounded up", x.catchUp(), 2);
        x.addReplica(3, -6);
        checks.due(31, "the slower one", x.catchUp(), 4);
        x.addReplica(0, 9);
        checks.due(31, "one that is there with rate 0", x.catchUp(), 4);
        x.stop(1, true);
        checks.due(31, "a stopped one", x.catchUp(), -6);
        x.drop(1);
        checks.due(31, "it is dropped", x.catchUp(), 2);
        x.tick(2);
        checks.due(31, "all are there", x.catchUp(), 0);
        x.stop(0, true);
        checks.due(31, "all are there, one stopped", x.catchUp(), 0);
        x.write(0, 0, 0);
        checks.due(31, "one with rate 0 behind", x.catchUp(), -6);
    }

    private static void nothingChanges() {
        ReplicaSessions x = new ReplicaSessions();
        x.open(9, 1, 0);
        x.addReplica(1, -6);
        x.write(0, 0, 0);
        x.waitFor(0, 0, 0);
        x.waitFor(0, 0, 9);
        x.bestReplica(0, 0);
        x.keysAfter(0, 0, 9);
        x.catchUp();
        checks.due(28, "the position stays", x.position(0), 0);
        checks.due(29, "no read is counted", x.session(0, 6), 0);
        checks.due(30, "no answer is counted", x.answers(9), 0);
        checks.due(31, "no state is recorded", x.undo(), 2);
        checks.due(31, "the write was the latest", x.length(), 0);
    }
}
