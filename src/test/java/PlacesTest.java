/** Promises 10 to 16. */
public final class PlacesTest {
    private static final Checks checks = new Checks();

    public static void main(String[] args) {
        lengthAndLog();
        positions();
        versionsAndValues();
        missingWrites();
        answersGiven();
        checks.finish();
    }

    private static void lengthAndLog() {
        ReplicaSessions x = new ReplicaSessions();
        x.open(9, 0, 0);
        x.open(9, 0, 0);
        checks.due(10, "an empty log", x.length(), 0);
        checks.due(11, "an empty log", x.logged(1, 0), -1);
        x.write(1, 11, 999);
        x.write(0, 0, 0);
        x.write(1, 12, 0);
        checks.due(10, "two writes", x.length(), 2);
        checks.due(11, "key", x.logged(1, 0), 11);
        checks.due(11, "value", x.logged(1, 1), 999);
        checks.due(11, "session", x.logged(1, 2), 1);
        checks.due(11, "key", x.logged(2, 0), 0);
        checks.due(11, "value", x.logged(2, 1), 0);
        checks.due(11, "session", x.logged(2, 2), 0);
        x.close(1);
        checks.due(11, "a closed session", x.logged(1, 2), 1);
        checks.due(11, "part 3", x.logged(2, 3), -2);
        checks.due(11, "part -1", x.logged(2, -1), -2);
        for (int number : new int[] {0, -1, 3, 200, 201, Integer.MAX_VALUE, Integer.MIN_VALUE}) {
            checks.due(11, "number " + number, x.logged(number, 3), -1);
        }
        Checks.writeMany(x, 200);
        checks.due(10, "a full log", x.length(), 200);
        checks.due(11, "the last write", x.logged(200, 1), 197);
        checks.due(11, "beyond the last write", x.logged(201, 1), -1);
    }

    private static void positions() {
        ReplicaSessions x = new ReplicaSessions();
        x.open(9, 0, 0);
        x.addReplica(1, -6);
        Checks.writeMany(x, 3);
        x.tick(2);
        checks.due(12, "the primary", x.position(9), 3);
        checks.due(12, "a replica", x.position(0), 2);
        for (int place : new int[] {1, 4, 5, 8, 10, -1, -6, Integer.MAX_VALUE, Integer.MIN_VALUE}) {
            checks.due(12, "place " + place, x.position(place), -1);
            checks.due(13, "place " + place, x.version(place, 0), -1);
            checks.due(14, "place " + place, x.value(place, 0), -1);
            checks.due(15, "place " + place, x.missing(place, 0), -1);
            checks.due(16, "place " + place, x.answers(place), -1);
        }
        for (int key : new int[] {-1, 12, Integer.MAX_VALUE, Integer.MIN_VALUE}) {
            checks.due(13, "key " + key, x.version(9, key), -1);
            checks.due(14, "key " + key, x.value(0, key), -1);
            checks.due(15, "key " + key, x.missing(9, key), -1);
        }
    }

    private static void versionsAndValues() {
        ReplicaSessions x = new ReplicaSessions();
        x.open(9, 0, 0);
        x.addReplica(1, -6);
        x.write(0, 11, 5);
        x.write(0, 3, 0);
        x.write(0, 11, 7);
        x.write(0, 4, 8);
        checks.due(13, "the latest write", x.version(9, 11), 3);
        checks.due(13, "a key that was not written", x.version(9, 0), 0);
        checks.due(13, "at the beginning", x.version(0, 11), 0);
        checks.due(14, "the latest value", x.value(9, 11), 7);
        checks.due(14, "the value 0", x.value(9, 3), 0);
        checks.due(14, "a key that was not written", x.value(9, 0), -6);
        checks.due(14, "at the beginning", x.value(0, 11), -6);
        x.tick(1);
        checks.due(13, "after one write", x.version(0, 11), 1);
        checks.due(14, "after one write", x.value(0, 11), 5);
        checks.due(13, "a later key", x.version(0, 3), 0);
        x.tick(2);
        checks.due(13, "after three writes", x.version(0, 11), 3);
        checks.due(13, "a write that is no longer the last one", x.version(0, 3), 2);
        x.jumpBack(0, 2);
        checks.due(13, "after a jump", x.version(0, 11), 1);
        checks.due(14, "after a jump", x.value(0, 11), 5);
    }

    private static void missingWrites() {
        ReplicaSessions x = new ReplicaSessions();
        x.open(9, 0, 0);
        x.addReplica(1, -6);
        x.write(0, 11, 5);
        x.write(0, 3, 0);
        x.write(0, 11, 7);
        checks.due(15, "all of a key", x.missing(0, 11), 2);
        checks.due(15, "none of a key", x.missing(0, 5), 0);
        checks.due(15, "the primary", x.missing(9, 11), 0);
        x.tick(1);
        checks.due(15, "one of a key", x.missing(0, 11), 1);
        x.tick(1);
        checks.due(15, "one of a key", x.missing(0, 11), 1);
        checks.due(15, "no longer one", x.missing(0, 3), 0);
        x.tick(1);
        checks.due(15, "none after all", x.missing(0, 11), 0);
    }

    private static void answersGiven() {
        ReplicaSessions x = new ReplicaSessions();
        x.addReplica(0, -6);
        x.open(0, 8, 0);
        x.open(9, 3, 0);
        checks.due(16, "no answer yet", x.answers(0), 0);
        x.read(0, 0);
        x.readAt(0, 1, 0);
        x.readAt(1, 1, 9);
        checks.due(16, "two answers", x.answers(0), 2);
        checks.due(16, "one answer of the primary", x.answers(9), 1);
        x.write(1, 0, 0);
        x.readAt(1, 0, 0);
        checks.due(16, "a refused read is no answer", x.answers(0), 2);
        x.change(0, 10, 0);
        x.readAt(0, 0, 9);
        x.jumpBack(0, 0);
        x.read(0, 0);
        checks.due(16, "answers after falling back", x.answers(9), 3);
        checks.due(16, "no answer of the home", x.answers(0), 2);
        x.waitFor(1, 0, 9);
        x.value(0, 0);
        checks.due(16, "queries are no answers", x.answers(9), 3);
        x.drop(0);
        checks.due(16, "a dropped replica", x.answers(0), -1);
        x.addReplica(0, -6);
        checks.due(16, "a new replica with its number", x.answers(0), 0);
        checks.due(16, "the primary forgets nothing", x.answers(9), 3);
    }
}
