/** Promises 17 to 23. */
public final class SessionsTest {
    private static final Checks checks = new Checks();
    private static final int[] WRONG_SESSIONS = {-1, 2, 7, 8, Integer.MAX_VALUE, Integer.MIN_VALUE};

    public static void main(String[] args) {
        newSessions();
        wrongSessions();
        closedSessions();
        newSessionWithOldNumber();
        moves();
        changes();
        hands();
        masks();
        parts();
        checks.finish();
    }

    private static void newSessions() {
        ReplicaSessions x = new ReplicaSessions();
        x.addReplica(0, -6);
        checks.due(17, "open", x.open(0, 15, 20), 0);
        checks.due(17, "open", x.open(9, 0, 0), 1);
        checks.due(17, "its home", x.session(0, 0), 0);
        checks.due(17, "its options", x.session(0, 1), 15);
        checks.due(17, "its bound", x.session(0, 2), 20);
        checks.due(17, "its home", x.session(1, 0), 9);
        for (int part = 3; part <= 8; part++) {
            checks.due(17, "part " + part, x.session(0, part), 0);
        }
    }

    private static void wrongSessions() {
        ReplicaSessions x = new ReplicaSessions();
        for (int home : new int[] {0, 5, 8, 10, -1, -6, Integer.MAX_VALUE, Integer.MIN_VALUE}) {
            checks.due(17, "home " + home, x.open(home, 16, 21), -1);
        }
        for (int options : new int[] {-1, 16, Integer.MAX_VALUE, Integer.MIN_VALUE}) {
            checks.due(17, "options " + options, x.open(9, options, 0), -2);
        }
        for (int bound : new int[] {-1, 21, Integer.MAX_VALUE, Integer.MIN_VALUE}) {
            checks.due(17, "bound " + bound, x.open(9, 0, bound), -2);
        }
        checks.due(17, "nothing changed", x.sessions(), 0);
        for (int i = 0; i < 8; i++) {
            checks.due(17, "there is room", x.open(9, 0, 0), i);
        }
        checks.due(17, "home is looked at first", x.open(0, 16, 0), -1);
        checks.due(17, "options are looked at before the room", x.open(9, 16, 0), -2);
        checks.due(17, "bound is looked at before the room", x.open(9, 0, 21), -2);
        checks.due(17, "a ninth session", x.open(9, 0, 0), -4);
    }

    private static void closedSessions() {
        ReplicaSessions x = new ReplicaSessions();
        x.open(9, 0, 0);
        x.open(9, 0, 0);
        x.open(9, 0, 0);
        x.write(1, 0, 0);
        x.write(1, 0, 0);
        x.readAt(0, 0, 9);
        checks.due(18, "the seen mark, without SEEN", x.close(0), 2);
        checks.due(18, "not the own mark", x.close(1), 0);
        checks.due(18, "close again", x.close(1), -1);
        checks.due(18, "the others stay", x.sessions(), 4);
        checks.due(18, "it is gone", x.session(1, 0), -1);
        checks.due(18, "number -1", x.close(-1), -1);
        checks.due(18, "number 8", x.close(8), -1);
        checks.due(17, "the lowest free number", x.open(9, 0, 0), 0);
        checks.due(17, "the next free number", x.open(9, 0, 0), 1);
        checks.due(17, "the number behind", x.open(9, 0, 0), 3);
    }

    private static void newSessionWithOldNumber() {
        ReplicaSessions x = new ReplicaSessions();
        x.addReplica(0, -6);
        x.open(9, 0, 0);
        x.write(0, 0, 5);
        x.read(0, 0);
        x.readAt(0, 0, 0);
        x.close(0);
        checks.due(17, "open", x.open(9, 1, 2), 0);
        for (int part = 3; part <= 8; part++) {
            checks.due(17, "part " + part, x.session(0, part), 0);
        }
        x.readAt(0, 0, 0);
        checks.due(17, "the earlier session's write is not its own", x.session(0, 7), 0);
        checks.due(17, "the earlier session's reads are not its own", x.session(0, 8), 0);
        checks.due(17, "the write keeps its session", x.logged(1, 2), 0);
    }

    private static void moves() {
        ReplicaSessions x = new ReplicaSessions();
        x.addReplica(0, -6);
        x.addReplica(0, -6);
        x.open(0, 3, 0);
        x.open(9, 0, 0);
        x.write(0, 0, 0);
        x.write(1, 0, 0);
        x.readAt(0, 0, 9);
        checks.due(19, "move", x.move(0, 1), 0);
        checks.due(19, "move to the primary", x.move(0, 9), 1);
        checks.due(19, "move to the same home", x.move(0, 9), 9);
        checks.due(19, "the home then", x.session(0, 0), 9);
        checks.due(19, "the own mark stays", x.session(0, 3), 1);
        checks.due(19, "the seen mark stays", x.session(0, 4), 2);
        checks.due(19, "the other one stays", x.session(1, 0), 9);
        for (int place : new int[] {2, 5, 8, 10, -1, -6}) {
            checks.due(19, "place " + place, x.move(0, place), -1);
        }
        for (int number : WRONG_SESSIONS) {
            checks.due(19, "session " + number, x.move(number, 0), -1);
        }
        checks.due(19, "nothing changed", x.session(0, 0), 9);
    }

    private static void changes() {
        ReplicaSessions x = new ReplicaSessions();
        x.open(9, 5, 7);
        x.open(9, 0, 0);
        x.write(0, 0, 0);
        checks.due(20, "change", x.change(0, 15, 20), 5);
        checks.due(20, "change", x.change(0, 0, 0), 15);
        checks.due(20, "change", x.change(0, 2, 3), 0);
        checks.due(20, "the options then", x.session(0, 1), 2);
        checks.due(20, "the bound then", x.session(0, 2), 3);
        checks.due(20, "the mark stays", x.session(0, 3), 1);
        checks.due(20, "the other one stays", x.session(1, 1), 0);
        checks.due(20, "options 16", x.change(0, 16, 0), -2);
        checks.due(20, "options -1", x.change(0, -1, 0), -2);
        checks.due(20, "bound 21", x.change(0, 0, 21), -2);
        checks.due(20, "bound -1", x.change(0, 0, -1), -2);
        checks.due(20, "nothing changed", x.session(0, 1), 2);
        checks.due(20, "nothing changed", x.session(0, 2), 3);
        for (int number : WRONG_SESSIONS) {
            checks.due(20, "session " + number, x.change(number, 16, 21), -1);
        }
    }

    private static void hands() {
        ReplicaSessions x = new ReplicaSessions();
        x.open(9, 0, 0);
        x.open(9, 0, 0);
        checks.due(21, "marks 0", x.hand(0, 1), 0);
        x.write(0, 0, 0);
        x.write(0, 0, 0);
        checks.due(21, "the own mark, without OWN", x.hand(0, 1), 2);
        checks.due(21, "it is the seen mark then", x.session(1, 4), 2);
        checks.due(21, "not the own mark", x.session(1, 3), 0);
        checks.due(21, "the giver keeps its own", x.session(0, 3), 2);
        checks.due(21, "the giver's seen mark stays", x.session(0, 4), 0);
        x.write(1, 0, 0);
        checks.due(21, "what has been seen is enough", x.hand(0, 1), 2);
        x.readAt(0, 0, 9);
        checks.due(21, "the seen mark", x.hand(0, 1), 3);
        x.close(0);
        x.open(9, 0, 0);
        checks.due(21, "the greater one stays", x.hand(0, 1), 3);
        checks.due(21, "the same one", x.hand(0, 0), -2);
        checks.due(21, "no such session is looked at first", x.hand(2, 2), -1);
        for (int number : WRONG_SESSIONS) {
            checks.due(21, "session " + number, x.hand(number, 0), -1);
            checks.due(21, "other " + number, x.hand(0, number), -1);
        }
    }

    private static void masks() {
        ReplicaSessions x = new ReplicaSessions();
        for (int i = 0; i < 8; i++) {
            x.open(9, 0, 0);
            checks.due(22, "sessions", x.sessions(), (2 << i) - 1);
        }
        x.close(0);
        x.close(6);
        checks.due(22, "sessions without 0 and 6", x.sessions(), 190);
    }

    private static void parts() {
        ReplicaSessions x = new ReplicaSessions();
        x.addReplica(0, -6);
        x.open(0, 0, 4);
        x.write(0, 0, 5);
        x.write(0, 1, 5);
        x.tick(1);
        x.readAt(0, 0, 9);
        x.write(0, 0, 6);
        checks.due(23, "home", x.session(0, 0), 0);
        checks.due(23, "options", x.session(0, 1), 0);
        checks.due(23, "bound", x.session(0, 2), 4);
        checks.due(23, "own mark", x.session(0, 3), 3);
        checks.due(23, "seen mark", x.session(0, 4), 2);
        checks.due(23, "need without options", x.session(0, 5), 0);
        x.change(0, 2, 4);
        checks.due(23, "need with SEEN", x.session(0, 5), 2);
        x.change(0, 1, 4);
        checks.due(23, "need with OWN", x.session(0, 5), 3);
        x.change(0, 3, 4);
        checks.due(23, "need with both", x.session(0, 5), 3);
        x.change(0, 12, 4);
        checks.due(23, "need with the other options", x.session(0, 5), 0);
        x.read(0, 0);
        checks.due(23, "answered reads", x.session(0, 6), 2);
        checks.due(23, "those that undid a write", x.session(0, 7), 1);
        checks.due(23, "those that went back", x.session(0, 8), 1);
        checks.due(23, "part 9", x.session(0, 9), -2);
        checks.due(23, "part -1", x.session(0, -1), -2);
        for (int number : WRONG_SESSIONS) {
            checks.due(23, "session " + number, x.session(number, 9), -1);
        }
    }
}
