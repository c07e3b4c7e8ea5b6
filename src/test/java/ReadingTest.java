/** Promises 24 to 27. */
public final class ReadingTest {
    private static final Checks checks = new Checks();

    public static void main(String[] args) {
        writes();
        fullLog();
        readsThatWait();
        readsWithinTheBound();
        readsThatFallBack();
        readsThatNeverCould();
        sharpReads();
        readsAtOnce();
        readsThatUndo();
        readsThatGoBack();
        wrongReads();
        latestRead();
        checks.finish();
    }

    private static void writes() {
        ReplicaSessions x = new ReplicaSessions();
        x.open(9, 0, 0);
        x.open(9, 0, 0);
        checks.due(24, "write", x.write(0, 0, 0), 1);
        checks.due(24, "write", x.write(1, 11, 999), 2);
        checks.due(24, "own mark", x.session(0, 3), 1);
        checks.due(24, "own mark", x.session(1, 3), 2);
        checks.due(24, "seen mark", x.session(1, 4), 0);
        checks.due(24, "no answer", x.answers(9), 0);
        for (int number : new int[] {-1, 2, 8, Integer.MAX_VALUE, Integer.MIN_VALUE}) {
            checks.due(24, "session " + number, x.write(number, 0, 1000), -1);
        }
        for (int key : new int[] {-1, 12, Integer.MAX_VALUE, Integer.MIN_VALUE}) {
            checks.due(24, "key " + key, x.write(0, key, 1000), -1);
        }
        for (int value : new int[] {-1, 1000, Integer.MAX_VALUE, Integer.MIN_VALUE}) {
            checks.due(24, "value " + value, x.write(0, 0, value), -2);
        }
        checks.due(24, "nothing changed", x.length(), 2);
        checks.due(24, "nothing changed", x.session(0, 3), 1);
    }

    private static void fullLog() {
        ReplicaSessions x = new ReplicaSessions();
        x.open(9, 0, 0);
        Checks.writeMany(x, 199);
        checks.due(24, "the last write", x.write(0, 1, 1), 200);
        checks.due(24, "one more", x.write(0, 1, 1), -4);
        checks.due(24, "no such session", x.write(1, 1, 1), -1);
        checks.due(24, "no such key", x.write(0, 12, 1), -1);
        checks.due(24, "the value is looked at before the room", x.write(0, 1, 1000), -2);
        checks.due(24, "the mark stays", x.session(0, 3), 200);
        checks.due(24, "the length stays", x.length(), 200);
    }

    private static void readsThatWait() {
        ReplicaSessions x = new ReplicaSessions();
        x.addReplica(2, -6);
        x.addReplica(1, -6);
        x.open(0, 1, 20);
        Checks.writeMany(x, 5);
        x.open(9, 0, 0);
        x.write(1, 0, 77);
        x.write(1, 0, 78);
        checks.due(25, "read", x.read(0, 0), 77);
        checks.due(25, "ticks passed for it", x.latest(2), 3);
        checks.due(25, "the home", x.position(0), 6);
        checks.due(25, "the other one", x.position(1), 3);
        checks.due(25, "the seen mark", x.session(0, 4), 6);
        checks.due(25, "a read without a wait", x.read(0, 0), 77);
        checks.due(25, "no tick passed", x.position(1), 3);
        checks.due(25, "no version", x.read(0, 1), -6);
        checks.due(25, "it was answered", x.session(0, 6), 3);
        checks.due(25, "from the primary", x.read(1, 0), 78);
        checks.due(25, "its seen mark", x.session(1, 4), 7);
        x.jumpBack(0, 6);
        x.change(1, 0, 0);
        x.readAt(1, 0, 0);
        checks.due(25, "the seen mark does not fall", x.session(1, 4), 7);
    }

    private static void readsWithinTheBound() {
        ReplicaSessions x = new ReplicaSessions();
        x.addReplica(1, -6);
        x.open(0, 1, 2);
        Checks.writeMany(x, 3);
        checks.due(25, "one tick beyond the bound", x.read(0, 0), -3);
        checks.due(25, "no tick passed", x.position(0), 0);
        checks.due(25, "it is not counted", x.session(0, 6), 0);
        checks.due(25, "it is no answer", x.answers(0), 0);
        checks.due(25, "there is no latest read", x.latest(0), -6);
        x.change(0, 1, 3);
        checks.due(25, "just within the bound", x.read(0, 0), 2);
        checks.due(25, "ticks passed", x.position(0), 3);
        x.jumpBack(0, 0);
        x.change(0, 0, 0);
        checks.due(25, "nothing is needed", x.read(0, 0), -6);
        x.change(0, 2, 2);
        checks.due(25, "what was seen is needed", x.read(0, 0), -3);
    }

    private static void readsThatFallBack() {
        ReplicaSessions x = new ReplicaSessions();
        x.addReplica(1, -6);
        x.open(0, 9, 2);
        Checks.writeMany(x, 3);
        checks.due(25, "fall back", x.read(0, 0), 2);
        checks.due(25, "the primary answered", x.latest(0), 9);
        checks.due(25, "no tick for it", x.latest(2), 0);
        checks.due(25, "no tick passed", x.position(0), 0);
        checks.due(25, "the home stays", x.session(0, 0), 0);
        checks.due(25, "its seen mark", x.session(0, 4), 3);
        checks.due(25, "fall back for an unwritten key", x.read(0, 1), -6);
        x.tick(1);
        checks.due(25, "within the bound", x.read(0, 0), 2);
        checks.due(25, "the home answered", x.latest(0), 0);
        checks.due(25, "it waited", x.latest(2), 2);
    }

    private static void readsThatNeverCould() {
        ReplicaSessions x = new ReplicaSessions();
        x.addReplica(0, -6);
        x.addReplica(9, -6);
        x.open(0, 3, 20);
        x.write(0, 0, 4);
        checks.due(25, "rate 0", x.read(0, 0), -3);
        x.move(0, 1);
        x.stop(1, true);
        checks.due(25, "stopped", x.read(0, 0), -3);
        x.change(0, 11, 20);
        checks.due(25, "stopped, with FALL_BACK", x.read(0, 0), 4);
        x.stop(1, false);
        checks.due(25, "let go on", x.read(0, 0), 4);
        checks.due(25, "the home answered", x.latest(0), 1);
    }

    private static void sharpReads() {
        ReplicaSessions x = new ReplicaSessions();
        x.addReplica(1, -6);
        x.open(0, 5, 20);
        x.write(0, 3, 10);
        x.write(0, 4, 20);
        x.write(0, 3, 11);
        x.write(0, 5, 30);
        checks.due(25, "an unwritten key needs nothing", x.read(0, 6), -6);
        checks.due(25, "no tick", x.latest(2), 0);
        checks.due(25, "the version is needed", x.read(0, 4), 20);
        checks.due(25, "two ticks", x.latest(2), 2);
        checks.due(26, "the latest version is missing", x.readAt(0, 3, 0), -3);
        checks.due(25, "one tick more", x.read(0, 3), 11);
        checks.due(25, "one tick", x.latest(2), 1);
        x.open(9, 0, 0);
        x.write(1, 3, 12);
        checks.due(25, "a write behind the need does not matter", x.read(0, 3), 11);
        checks.due(25, "no tick", x.latest(2), 0);
        x.change(0, 1, 0);
        checks.due(25, "without SHARP the need matters", x.read(0, 3), -3);
    }

    private static void readsAtOnce() {
        ReplicaSessions x = new ReplicaSessions();
        x.addReplica(1, -6);
        x.open(9, 9, 20);
        x.write(0, 0, 1);
        x.write(0, 0, 2);
        checks.due(26, "it does not wait, nor fall back", x.readAt(0, 0, 0), -3);
        checks.due(26, "nothing changed", x.position(0), 0);
        checks.due(26, "it is not counted", x.session(0, 6), 0);
        checks.due(26, "the primary", x.readAt(0, 0, 9), 2);
        checks.due(26, "its seen mark", x.session(0, 4), 2);
        x.tick(1);
        checks.due(26, "one write is missing", x.readAt(0, 0, 0), -3);
        x.change(0, 0, 0);
        checks.due(26, "without options", x.readAt(0, 0, 0), 1);
        checks.due(26, "an unwritten key", x.readAt(0, 1, 0), -6);
        checks.due(26, "the home stays", x.session(0, 0), 9);
        checks.due(26, "answered reads", x.session(0, 6), 3);
    }

    private static void readsThatUndo() {
        ReplicaSessions x = new ReplicaSessions();
        x.addReplica(0, -6);
        x.open(9, 0, 0);
        x.open(9, 0, 0);
        x.write(0, 0, 1);
        x.readAt(1, 0, 0);
        checks.due(23, "another session's write is not undone", x.session(1, 7), 0);
        x.readAt(0, 1, 0);
        checks.due(23, "another key is not undone", x.session(0, 7), 0);
        x.readAt(0, 0, 0);
        checks.due(23, "the write is undone", x.session(0, 7), 1);
        checks.due(23, "nothing was read before", x.session(0, 8), 0);
        x.readAt(0, 0, 9);
        checks.due(23, "the write is read", x.session(0, 7), 1);
        x.addReplica(0, 9);
        x.write(0, 0, 2);
        x.readAt(0, 0, 1);
        checks.due(23, "the latest write counts", x.session(0, 7), 2);
    }

    private static void readsThatGoBack() {
        ReplicaSessions x = new ReplicaSessions();
        x.addReplica(0, -6);
        x.open(9, 0, 0);
        x.open(9, 0, 0);
        x.write(0, 0, 1);
        x.addReplica(0, 9);
        x.write(0, 0, 1);
        x.readAt(1, 0, 9);
        checks.due(23, "a first read", x.session(1, 8), 0);
        x.readAt(1, 1, 0);
        checks.due(23, "another key", x.session(1, 8), 0);
        x.readAt(1, 0, 0);
        checks.due(23, "back to nothing", x.session(1, 8), 1);
        x.readAt(1, 0, 1);
        checks.due(23, "the greatest version counts, not the last one", x.session(1, 8), 2);
        x.readAt(1, 0, 9);
        checks.due(23, "the same version", x.session(1, 8), 2);
        checks.due(23, "no write of its own", x.session(1, 7), 0);
        x.readAt(0, 0, 0);
        checks.due(23, "reads of another session", x.session(0, 8), 0);
    }

    private static void wrongReads() {
        ReplicaSessions x = new ReplicaSessions();
        x.addReplica(0, -6);
        x.open(0, 3, 0);
        x.write(0, 0, 0);
        for (int number : new int[] {-1, 1, 8, Integer.MAX_VALUE, Integer.MIN_VALUE}) {
            checks.due(25, "session " + number, x.read(number, 0), -1);
            checks.due(26, "session " + number, x.readAt(number, 0, 0), -1);
        }
        for (int key : new int[] {-1, 12, Integer.MAX_VALUE, Integer.MIN_VALUE}) {
            checks.due(25, "key " + key, x.read(0, key), -1);
            checks.due(26, "key " + key, x.readAt(0, key, 0), -1);
        }
        for (int place : new int[] {-1, 1, 5, 8, 10, -6, Integer.MAX_VALUE, Integer.MIN_VALUE}) {
            checks.due(26, "place " + place, x.readAt(0, 0, place), -1);
        }
        checks.due(25, "no such key is looked at first", x.read(0, 12), -1);
        checks.due(25, "not possible", x.read(0, 0), -3);
    }

    private static void latestRead() {
        ReplicaSessions x = new ReplicaSessions();
        x.addReplica(2, -6);
        x.open(0, 1, 20);
        checks.due(27, "no read yet", x.latest(0), -6);
        checks.due(27, "no read yet", x.latest(1), -6);
        checks.due(27, "no read yet", x.latest(2), -6);
        checks.due(27, "part 3 is looked at first", x.latest(3), -2);
        checks.due(27, "part -1 is looked at first", x.latest(-1), -2);
        Checks.writeMany(x, 3);
        x.readAt(0, 0, 0);
        checks.due(27, "no read was answered yet", x.latest(0), -6);
        x.read(0, 0);
        checks.due(27, "the place", x.latest(0), 0);
        checks.due(27, "the version", x.latest(1), 3);
        checks.due(27, "the ticks", x.latest(2), 2);
        checks.due(27, "part 3", x.latest(3), -2);
        x.readAt(0, 5, 9);
        checks.due(27, "the primary", x.latest(0), 9);
        checks.due(27, "version 0", x.latest(1), 0);
        checks.due(27, "no ticks", x.latest(2), 0);
        x.readAt(0, 0, 0);
        x.close(0);
        x.drop(0);
        checks.due(27, "a dropped replica", x.latest(0), 0);
        checks.due(27, "the version stays", x.latest(1), 3);
    }
}
