/** Promises 17 to 31, and the terms sessions and reading: the edges that their sentences name. */
public final class EdgesOfSessionsTest {
    private static final Checks checks = new Checks();

    public static void main(String[] args) {
        ninthSession();
        lowestFreeNumber();
        newMarks();
        closedMarks();
        sameHome();
        edgesOfOptions();
        greatestMark();
        masksOfSessions();
        needOfEachOption();
        edgesOfWrites();
        positionAtTheNeed();
        versionAtThePosition();
        waitAtTheBound();
        waitBeyondTheBound();
        noWaitAtAll();
        nothingPassesForThePrimary();
        seenMarkIfGreater();
        undoneAtTheVersion();
        backToTheVersion();
        countsOfNewSessions();
        latestOfEachRead();
        longestWaits();
        leastOfSeveral();
        keysAtTheTick();
        catchUpAtTheEdges();
        checks.finish();
    }

    /** Replica 0 with the rate at the beginning, session 0 at it, and writes by session 0. */
    private static ReplicaSessions store(int rate, int options, int bound, int writes) {
        ReplicaSessions x = new ReplicaSessions();
        x.addReplica(rate, -6);
        x.open(0, options, bound);
        Checks.writeMany(x, writes);
        return x;
    }

    /** "There are up to 8 sessions, 0 to 7." */
    private static void ninthSession() {
        ReplicaSessions x = new ReplicaSessions();
        for (int session = 0; session < 7; session++) {
            x.open(9, 0, 0);
        }
        checks.due(17, "the eighth", x.open(9, 15, 20), 7);
        checks.due(17, "the ninth", x.open(9, 0, 0), -4);
        checks.due(22, "eight are there", x.sessions(), 255);
        x.close(3);
        checks.due(17, "the eighth again", x.open(9, 0, 0), 3);
        checks.due(17, "the ninth again", x.open(9, 0, 0), -4);
        x.undo();
        checks.due(17, "one place after an undo", x.open(9, 0, 0), 3);
    }

    private static void lowestFreeNumber() {
        for (int closed = 0; closed < 8; closed++) {
            ReplicaSessions x = Stores.full();
            checks.due(18, "close " + closed, x.close(closed), 0);
            checks.due(22, "the others stay", x.sessions(), 255 - (1 << closed));
            checks.due(17, "the number " + closed + " is free", x.open(9, 0, 0), closed);
            checks.due(17, "no other one is", x.open(9, 0, 0), -4);
        }
        ReplicaSessions x = Stores.full();
        x.close(6);
        x.close(2);
        x.close(7);
        checks.due(17, "the lowest of three", x.open(9, 0, 0), 2);
        checks.due(17, "the next one", x.open(9, 0, 0), 6);
        checks.due(17, "the last one", x.open(9, 0, 0), 7);
    }

    /** "A new session has the marks 0." */
    private static void newMarks() {
        ReplicaSessions x = store(0, 3, 0, 200);
        x.readAt(0, 0, 9);
        x.close(0);
        checks.due(17, "a new one with its number", x.open(9, 3, 0), 0);
        checks.due(17, "own mark", x.session(0, 3), 0);
        checks.due(17, "seen mark", x.session(0, 4), 0);
        checks.due(17, "need", x.session(0, 5), 0);
        checks.due(17, "so the beginning can answer it", x.readAt(0, 0, 0), -6);
        checks.due(18, "its seen mark then", x.close(0), 0);
    }

    /** "Returns its seen mark" */
    private static void closedMarks() {
        ReplicaSessions x = store(0, 0, 0, 200);
        checks.due(18, "nothing was seen", x.close(0), 0);
        checks.due(22, "no session is left", x.sessions(), 0);
        checks.due(18, "close again", x.close(0), -1);
        x.open(9, 0, 0);
        x.read(0, 11);
        checks.due(18, "all was seen, without SEEN", x.close(0), 200);
    }

    private static void sameHome() {
        ReplicaSessions x = store(0, 3, 0, 2);
        x.readAt(0, 0, 9);
        checks.due(19, "to its own home", x.move(0, 0), 0);
        checks.due(19, "to the primary", x.move(0, 9), 0);
        checks.due(19, "its marks stay", x.session(0, 3), 2);
        checks.due(19, "its marks stay", x.session(0, 4), 2);
        checks.due(19, "the reads stay", x.session(0, 6), 1);
        x.drop(0);
        checks.due(19, "back to a dropped one", x.move(0, 0), -1);
        checks.due(19, "the home stays", x.session(0, 0), 9);
    }

    /** "options: 0 to 15", "bound: 0 to 20" */
    private static void edgesOfOptions() {
        for (int options = 0; options <= 15; options++) {
            ReplicaSessions x = store(0, options, 0, 1);
            checks.due(17, "options " + options, x.session(0, 1), options);
            checks.due(20, "to the most", x.change(0, 15, 20), options);
            checks.due(20, "back", x.change(0, options, 0), 15);
            checks.due(20, "the own mark stays", x.session(0, 3), 1);
            checks.due(20, "the home stays", x.session(0, 0), 0);
        }
        ReplicaSessions x = store(0, 0, 20, 0);
        checks.due(17, "the most bound", x.session(0, 2), 20);
        x.change(0, 15, 0);
        checks.due(20, "the least bound", x.session(0, 2), 0);
        checks.due(20, "a bad bound", x.change(0, 1, 21), -2);
        checks.due(20, "the options stay too", x.session(0, 1), 15);
        checks.due(20, "bad options", x.change(0, 16, 7), -2);
        checks.due(20, "the bound stays too", x.session(0, 2), 0);
    }

    /** "the greatest one of its seen mark and both marks of this session" */
    private static void greatestMark() {
        for (int order = 0; order < 3; order++) {
            ReplicaSessions x = new ReplicaSessions();
            x.open(9, 0, 0);
            x.open(9, 0, 0);
            x.open(9, 0, 0);
            for (int step = 0; step < 3; step++) {
                // Each of the three marks is the greatest once: the last one that is set.
                x.write(2, 0, 0);
                switch ((order + step) % 3) {
                    case 0: x.write(0, 0, 0); break;
                    case 1: x.read(0, 0); break;
                    default: x.read(1, 0); break;
                }
            }
            int greatest = Math.max(x.session(1, 4), Math.max(x.session(0, 3), x.session(0, 4)));
            checks.due(21, "the greatest is the length", greatest, x.length());
            checks.due(21, "hand, order " + order, x.hand(0, 1), greatest);
            checks.due(21, "the other's seen mark", x.session(1, 4), greatest);
            checks.due(21, "the other's own mark", x.session(1, 3), 0);
            checks.due(21, "once more", x.hand(0, 1), greatest);
        }
        ReplicaSessions x = Stores.full();
        checks.due(21, "the first to the last", x.hand(0, 7), 193);
        checks.due(21, "the last to the first", x.hand(7, 0), 200);
        checks.due(21, "to itself", x.hand(7, 7), -2);
        checks.due(21, "one behind the last", x.hand(8, 7), -1);
    }

    private static void masksOfSessions() {
        for (int session = 0; session < 8; session++) {
            ReplicaSessions x = Stores.full();
            for (int closed = 0; closed < 8; closed++) {
                if (closed != session) {
                    x.close(closed);
                }
            }
            checks.due(22, "one alone", x.sessions(), 1 << session);
            x.close(session);
            checks.due(22, "none", x.sessions(), 0);
        }
    }

    /** "the greater one of its own mark, if ..., and its seen mark, if ... (0 counts ...)" */
    private static void needOfEachOption() {
        for (int options = 0; options <= 15; options++) {
            ReplicaSessions x = store(0, options, 0, 2);
            x.readAt(0, 0, 9);
            x.write(0, 0, 0);
            int due = (options & 1) != 0 ? 3 : (options & 2) != 0 ? 2 : 0;
            checks.due(23, "the own mark is greater, options " + options, x.session(0, 5), due);
            x.open(9, 0, 0);
            x.write(1, 0, 0);
            x.readAt(0, 0, 9);
            due = (options & 2) != 0 ? 4 : (options & 1) != 0 ? 3 : 0;
            checks.due(23, "the seen mark is greater, options " + options, x.session(0, 5), due);
            checks.due(23, "the own mark", x.session(0, 3), 3);
            checks.due(23, "the seen mark", x.session(0, 4), 4);
        }
    }

    private static void edgesOfWrites() {
        ReplicaSessions x = store(0, 0, 0, 0);
        checks.due(24, "the first", x.write(0, 0, 0), 1);
        checks.due(24, "the most value", x.write(0, 11, 999), 2);
        checks.due(24, "beyond the most value", x.write(0, 11, 1000), -2);
        checks.due(24, "below the least value", x.write(0, 11, -1), -2);
        checks.due(24, "behind the last key", x.write(0, 12, 0), -1);
        checks.due(24, "ahead of the first key", x.write(0, -1, 0), -1);
        checks.due(24, "no such session", x.write(1, 0, 0), -1);
        checks.due(24, "the own mark", x.session(0, 3), 2);
        Checks.writeMany(x, 197);
        checks.due(24, "the own mark", x.session(0, 3), 199);
        x.open(9, 0, 0);
        checks.due(24, "the 200th", x.write(1, 0, 0), 200);
        checks.due(24, "the 201st", x.write(0, 0, 0), -4);
        checks.due(24, "the own mark stays", x.session(0, 3), 199);
        checks.due(24, "the own mark of the last one", x.session(1, 3), 200);
        checks.due(24, "the last value is read", x.read(1, 0), 0);
    }

    /** "A place can answer a session about a key if its position is at least the need" */
    private static void positionAtTheNeed() {
        for (int options : new int[] {1, 2, 3, 9}) {
            ReplicaSessions x = store(1, options, 0, 5);
            x.readAt(0, 0, 9);
            x.write(0, 1, 0);
            int need = x.session(0, 5);
            x.tick(need - 1);
            checks.due(26, "one below the need", x.readAt(0, 0, 0), -3);
            checks.due(28, "a wait of one", x.waitFor(0, 0, 0), 1);
            checks.due(30, "none of the keys", x.keysAfter(0, 0, 0), 0);
            x.tick(1);
            checks.due(28, "no wait", x.waitFor(0, 0, 0), 0);
            checks.due(30, "all of the keys", x.keysAfter(0, 0, 0), 12);
            checks.due(26, "at the need", x.readAt(0, 0, 0), 4);
        }
        ReplicaSessions x = store(0, 0, 0, 5);
        checks.due(26, "the need 0 at the position 0", x.readAt(0, 0, 0), -6);
    }

    /** "or, ... if the version of the key at the position of the need is at most the position" */
    private static void versionAtThePosition() {
        ReplicaSessions x = store(0, 5, 0, 0);
        x.write(0, 1, 10);
        x.write(0, 2, 20);
        x.write(0, 3, 30);
        x.open(9, 0, 0);
        x.write(1, 1, 40);
        x.addReplica(0, 9);
        x.jumpBack(1, 3);
        checks.due(26, "at the need", x.readAt(0, 3, 1), 30);
        x.jumpBack(1, 2);
        checks.due(26, "one below the version", x.readAt(0, 3, 1), -3);
        checks.due(26, "at the version", x.readAt(0, 2, 1), 20);
        x.jumpBack(1, 1);
        checks.due(26, "one below the version", x.readAt(0, 2, 1), -3);
        checks.due(26, "at the version, the write behind the need does not matter", x.readAt(0, 1, 1), 10);
        x.jumpBack(1, 0);
        checks.due(26, "one below the version", x.readAt(0, 1, 1), -3);
        checks.due(26, "version 0 at the position 0", x.readAt(0, 0, 1), -6);
        x.hand(1, 0);
        x.change(0, 6, 0);
        checks.due(23, "the need reaches the other's write", x.session(0, 5), 4);
        checks.due(28, "the wait for it", x.waitFor(0, 1, 1), -6);
        x.setRate(1, 1);
        checks.due(28, "the wait for it", x.waitFor(0, 1, 1), 4);
        x.change(0, 2, 0);
        checks.due(26, "without SHARP a key without writes is not known", x.readAt(0, 0, 1), -3);
    }

    /** "If the wait of the session is at most its bound, as many ticks pass first" */
    private static void waitAtTheBound() {
        for (int bound = 0; bound <= 20; bound++) {
            ReplicaSessions x = store(1, 1, bound, bound);
            checks.due(25, "the wait " + bound, x.read(0, 0), bound == 0 ? -6 : bound - 1);
            checks.due(27, "as many ticks", x.latest(2), bound);
            checks.due(25, "the position then", x.position(0), bound);
            x = store(1, 1, bound, bound + 1);
            checks.due(25, "the wait " + (bound + 1), x.read(0, 0), -3);
            checks.due(25, "no tick passed", x.position(0), 0);
            checks.due(27, "no read", x.latest(0), -6);
        }
        ReplicaSessions x = store(9, 1, 1, 9);
        checks.due(25, "nine writes at the rate 9", x.read(0, 0), 8);
        checks.due(27, "one tick", x.latest(2), 1);
        x.write(0, 0, 99);
        x.change(0, 1, 0);
        checks.due(25, "one more with the bound 0", x.read(0, 0), -3);
        x = store(9, 1, 1, 10);
        checks.due(25, "ten writes at the rate 9", x.read(0, 0), -3);
        x.change(0, 1, 2);
        checks.due(25, "with two ticks", x.read(0, 0), 9);
        checks.due(25, "not beyond the length", x.position(0), 10);
    }

    /** "Otherwise, if the session has the option FALL_BACK, the primary answers, and no tick passes." */
    private static void waitBeyondTheBound() {
        for (int options = 0; options <= 15; options++) {
            ReplicaSessions x = store(1, options, 20, 21);
            x.readAt(0, 0, 9);
            boolean isNeeded = (options & 3) != 0;
            boolean fallsBack = (options & 8) != 0;
            int got = x.read(0, 0);
            checks.due(25, "read, options " + options, got, !isNeeded ? -6 : fallsBack ? 20 : -3);
            checks.due(25, "no tick passed", x.position(0), 0);
            checks.due(27, "the place, options " + options, x.latest(0), isNeeded ? 9 : 0);
            checks.due(27, "the ticks, options " + options, x.latest(2), 0);
            checks.due(16, "answers of the home", x.answers(0), isNeeded ? 0 : 1);
            checks.due(16, "answers of the primary", x.answers(9), isNeeded && fallsBack ? 2 : 1);
            checks.due(23, "reads", x.session(0, 6), isNeeded && !fallsBack ? 1 : 2);
        }
        ReplicaSessions x = store(1, 9, 20, 20);
        checks.due(25, "just within the bound", x.read(0, 0), 19);
        checks.due(27, "the home answered", x.latest(0), 0);
        checks.due(27, "twenty ticks", x.latest(2), 20);
    }

    /** "there is none if it never could" */
    private static void noWaitAtAll() {
        ReplicaSessions x = store(0, 1, 20, 1);
        checks.due(28, "the rate 0", x.waitFor(0, 0, 0), -6);
        checks.due(25, "the rate 0", x.read(0, 0), -3);
        x.setRate(0, 1);
        checks.due(28, "the rate 1", x.waitFor(0, 0, 0), 1);
        x.stop(0, true);
        checks.due(28, "stopped", x.waitFor(0, 0, 0), -6);
        checks.due(25, "stopped", x.read(0, 0), -3);
        x.change(0, 9, 20);
        checks.due(25, "stopped, with FALL_BACK", x.read(0, 0), 0);
        x.stop(0, false);
        x.tick(1);
        x.stop(0, true);
        checks.due(28, "stopped at the need", x.waitFor(0, 0, 0), 0);
        x.change(0, 1, 0);
        checks.due(25, "stopped at the need", x.read(0, 0), 0);
        checks.due(27, "the home answered", x.latest(0), 0);
        x.setRate(0, 0);
        x.stop(0, false);
        checks.due(25, "the rate 0 at the need", x.read(0, 0), 0);
    }

    private static void nothingPassesForThePrimary() {
        ReplicaSessions x = store(1, 15, 20, 200);
        x.move(0, 9);
        checks.due(28, "the wait for the primary", x.waitFor(0, 0, 9), 0);
        checks.due(25, "read from it", x.read(0, 0), 199);
        checks.due(27, "no tick", x.latest(2), 0);
        checks.due(25, "the replica stays", x.position(0), 0);
        checks.due(30, "all keys", x.keysAfter(0, 9, 0), 12);
        x = new ReplicaSessions();
        x.open(9, 3, 0);
        checks.due(25, "of an empty log", x.read(0, 0), -6);
        checks.due(27, "version 0", x.latest(1), 0);
        checks.due(36, "NONE is not an error code", x.undo(), 1);
        checks.due(27, "the read is undone", x.latest(1), -6);
    }

    /** "the seen mark of the session becomes the position of the place, if that is greater" */
    private static void seenMarkIfGreater() {
        ReplicaSessions x = store(0, 0, 0, 3);
        x.readAt(0, 0, 0);
        checks.due(26, "the position 0", x.session(0, 4), 0);
        x.addReplica(0, 9);
        x.jumpBack(1, 2);
        x.readAt(0, 11, 1);
        checks.due(26, "the position, not the version", x.session(0, 4), 2);
        x.jumpBack(1, 1);
        x.readAt(0, 0, 1);
        checks.due(26, "one below", x.session(0, 4), 2);
        x.readAt(0, 0, 9);
        checks.due(26, "one above", x.session(0, 4), 3);
        x.readAt(0, 0, 9);
        checks.due(26, "the same", x.session(0, 4), 3);
        x = store(2, 1, 20, 3);
        x.read(0, 0);
        checks.due(25, "the position after the ticks", x.session(0, 4), 3);
    }

    /** "the number of its latest write of this key is greater than the version of the answer" */
    private static void undoneAtTheVersion() {
        ReplicaSessions x = store(0, 0, 0, 0);
        x.open(9, 0, 0);
        x.write(0, 1, 1);
        x.write(1, 1, 2);
        x.addReplica(0, 9);
        x.readAt(0, 1, 1);
        checks.due(23, "another's write is later", x.session(0, 7), 0);
        x.jumpBack(1, 1);
        x.readAt(0, 1, 1);
        checks.due(23, "its own write is the answer", x.session(0, 7), 0);
        x.readAt(1, 1, 1);
        checks.due(23, "the write of the other one is undone", x.session(1, 7), 1);
        x.readAt(0, 1, 0);
        checks.due(23, "its own write is not there", x.session(0, 7), 1);
        x.write(0, 1, 3);
        x.readAt(0, 1, 9);
        checks.due(23, "its latest write is the answer", x.session(0, 7), 1);
        x.readAt(0, 1, 1);
        checks.due(23, "only its first write is there", x.session(0, 7), 2);
        x.readAt(0, 0, 0);
        checks.due(23, "a key that it has not written", x.session(0, 7), 2);
        checks.due(23, "all of them are counted", x.session(0, 6), 6);
    }

    /** "if the session has read this key before with a greater version" */
    private static void backToTheVersion() {
        ReplicaSessions x = new ReplicaSessions();
        x.open(9, 0, 0);
        x.open(9, 0, 0);
        x.write(1, 1, 1);
        x.write(1, 2, 2);
        x.write(1, 1, 3);
        x.addReplica(0, 9);
        x.readAt(0, 1, 9);
        x.readAt(0, 1, 0);
        checks.due(23, "the same version", x.session(0, 8), 0);
        x.jumpBack(0, 2);
        x.readAt(0, 2, 0);
        checks.due(23, "an older place, but another key", x.session(0, 8), 0);
        x.readAt(0, 1, 0);
        checks.due(23, "the version before", x.session(0, 8), 1);
        x.jumpBack(0, 0);
        x.readAt(0, 1, 0);
        checks.due(23, "the version 0", x.session(0, 8), 2);
        x.readAt(0, 2, 0);
        checks.due(23, "of the other key", x.session(0, 8), 3);
        x.readAt(0, 0, 9);
        x.readAt(0, 0, 0);
        checks.due(23, "the version 0 both times", x.session(0, 8), 3);
        checks.due(23, "the other session has read nothing", x.session(1, 6), 0);
        x.hand(0, 1);
        x.readAt(1, 1, 0);
        checks.due(23, "a handed mark is no read", x.session(1, 8), 0);
        checks.due(23, "but its writes are undone", x.session(1, 7), 1);
    }

    private static void countsOfNewSessions() {
        ReplicaSessions x = Stores.usual();
        checks.due(23, "reads before", x.session(0, 6), 3);
        checks.due(23, "those that undid a write", x.session(0, 7), 2);
        checks.due(23, "those that went back", x.session(0, 8), 1);
        x.close(0);
        x.open(9, 0, 0);
        for (int part = 6; part <= 8; part++) {
            checks.due(23, "part " + part + " of a new one", x.session(0, part), 0);
        }
        x.readAt(0, 0, 1);
        checks.due(23, "its first read", x.session(0, 6), 1);
        checks.due(23, "undoes no write", x.session(0, 7), 0);
        checks.due(23, "and does not go back", x.session(0, 8), 0);
    }

    /** "Returns something about the latest read that was answered." */
    private static void latestOfEachRead() {
        for (int replica = 0; replica < 5; replica++) {
            ReplicaSessions x = Stores.full();
            x.change(0, 0, 0);
            x.readAt(0, 0, replica);
            checks.due(27, "the place " + replica, x.latest(0), replica);
            checks.due(27, "its version", x.latest(1), x.version(replica, 0));
            checks.due(27, "no tick", x.latest(2), 0);
        }
        ReplicaSessions x = store(1, 1, 20, 20);
        x.read(0, 0);
        checks.due(27, "the most ticks", x.latest(2), 20);
        x.write(0, 1, 0);
        x.readAt(0, 1, 0);
        checks.due(27, "a refused read is not the latest", x.latest(1), 20);
        checks.due(27, "a refused read is not the latest", x.latest(2), 20);
        x.tick(5);
        checks.due(27, "other ticks do not count", x.latest(2), 20);
        x.readAt(0, 1, 9);
        checks.due(27, "the last version", x.latest(1), 21);
        checks.due(27, "no tick for it", x.latest(2), 0);
    }

    private static void longestWaits() {
        ReplicaSessions x = store(1, 1, 20, 200);
        checks.due(28, "the longest", x.waitFor(0, 0, 0), 200);
        checks.due(31, "the longest", x.catchUp(), 200);
        checks.due(29, "beyond the bound too", x.bestReplica(0, 0), 0);
        int[] waits = {-6, 200, 100, 67, 50, 40, 34, 29, 25, 23};
        for (int rate = 0; rate <= 9; rate++) {
            x.setRate(0, rate);
            checks.due(28, "the wait at the rate " + rate, x.waitFor(0, 0, 0), waits[rate]);
            checks.due(31, "the ticks at the rate " + rate, x.catchUp(), waits[rate]);
            checks.due(29, "the best at the rate " + rate, x.bestReplica(0, 0), rate == 0 ? -6 : 0);
        }
        checks.due(28, "a prediction lets no tick pass", x.position(0), 0);
    }

    /** "of several the one with the lowest number" */
    private static void leastOfSeveral() {
        ReplicaSessions x = store(0, 1, 0, 18);
        checks.due(29, "none of one", x.bestReplica(0, 0), -6);
        for (int replica = 1; replica < 5; replica++) {
            x.addReplica(9, -6);
        }
        checks.due(29, "the lowest of four", x.bestReplica(0, 0), 1);
        x.setRate(1, 8);
        checks.due(29, "the lowest of three", x.bestReplica(0, 0), 2);
        x.setRate(0, 9);
        checks.due(29, "the lowest of all", x.bestReplica(0, 0), 0);
        x.stop(0, true);
        x.stop(2, true);
        x.drop(3);
        checks.due(29, "the last one alone", x.bestReplica(0, 0), 4);
        x.stop(4, true);
        checks.due(29, "a slower one", x.bestReplica(0, 0), 1);
        x.drop(1);
        checks.due(29, "none of three", x.bestReplica(0, 0), -6);
        x.change(0, 0, 0);
        checks.due(29, "without a need the lowest", x.bestReplica(0, 0), 0);
        x.drop(0);
        x.drop(2);
        x.drop(4);
        checks.due(29, "without a replica none", x.bestReplica(0, 0), -6);
    }

    /** "ticks: 0 to 99", none and all of the keys. */
    private static void keysAtTheTick() {
        ReplicaSessions x = store(1, 1, 0, 99);
        checks.due(30, "one tick below", x.keysAfter(0, 0, 98), 0);
        checks.due(30, "at the tick", x.keysAfter(0, 0, 99), 12);
        checks.due(30, "beyond the most", x.keysAfter(0, 0, 100), -2);
        checks.due(30, "below the least", x.keysAfter(0, 0, -1), -2);
        x.write(0, 0, 0);
        checks.due(30, "one write more", x.keysAfter(0, 0, 99), 0);
        x.change(0, 5, 0);
        checks.due(30, "with SHARP all but that key", x.keysAfter(0, 0, 99), 11);
        checks.due(30, "with SHARP at once", x.keysAfter(0, 0, 0), 11);
        x.tick(1);
        checks.due(30, "with SHARP all", x.keysAfter(0, 0, 99), 12);
        x.stop(0, true);
        checks.due(30, "stopped", x.keysAfter(0, 0, 99), 11);
        checks.due(30, "no tick passed", x.position(0), 1);
        x.change(0, 0, 0);
        checks.due(30, "without a need", x.keysAfter(0, 0, 0), 12);
    }

    private static void catchUpAtTheEdges() {
        ReplicaSessions x = new ReplicaSessions();
        checks.due(31, "no replica, empty log", x.catchUp(), 0);
        x.addReplica(0, -6);
        x.stop(0, true);
        checks.due(31, "a stopped one, empty log", x.catchUp(), 0);
        x.open(9, 0, 0);
        x.write(0, 0, 0);
        checks.due(31, "a stopped one behind", x.catchUp(), -6);
        x.setRate(0, 9);
        checks.due(31, "still stopped", x.catchUp(), -6);
        x.stop(0, false);
        checks.due(31, "it goes on", x.catchUp(), 1);
        Checks.writeMany(x, 8);
        checks.due(31, "nine writes at the rate 9", x.catchUp(), 1);
        x.write(0, 0, 0);
        checks.due(31, "ten writes at the rate 9", x.catchUp(), 2);
        for (int replica = 1; replica < 5; replica++) {
            x.addReplica(5 - replica, -6);
        }
        checks.due(31, "the last one is the slowest", x.catchUp(), 10);
        x.setRate(4, 0);
        checks.due(31, "the last one never", x.catchUp(), -6);
        x.drop(4);
        checks.due(31, "it is dropped", x.catchUp(), 5);
        int ticks = x.catchUp();
        checks.due(7, "one tick less is too few", x.tick(ticks - 1), 3);
        checks.due(31, "one tick is left", x.catchUp(), 1);
        checks.due(7, "all of them", x.tick(1), 4);
        checks.due(31, "none is left", x.catchUp(), 0);
    }
}
