import java.util.Arrays;

/**
 * A store with one primary and replicas that lag behind it: writes go into a log, replicas take
 * the log over at their own pace, are stopped or jump back, and sessions read from them only what
 * they surely know.
 */
public final class ReplicaSessions {
    public static final int NO_SUCH = -1;
    public static final int BAD_VALUE = -2;
    public static final int NOT_POSSIBLE = -3;
    public static final int LIMIT = -4;
    public static final int BAD_TEXT = -5;
    public static final int NONE = -6;
    public static final int PRIMARY = 9;
    public static final int OWN = 1, SEEN = 2, SHARP = 4, FALL_BACK = 8;

    private static final int KEY_COUNT = 12;
    private static final int MOST_VALUE = 999;
    private static final int MOST_RATE = 9;
    private static final int MOST_TICKS = 99;
    private static final int MOST_OPTIONS = OWN + SEEN + SHARP + FALL_BACK;
    private static final int MOST_BOUND = 20;
    private static final int FIRST_CODE = 33;
    private static final int LAST_CODE = 126;

    private static final int WRITE_LIMIT = 200;
    private static final int REPLICA_LIMIT = 5;
    private static final int SESSION_LIMIT = 8;
    private static final int TEXT_LIMIT = 80;
    private static final int UNDO_LIMIT = 5;

    private final State now = new State();
    private final State saved = new State();
    private boolean isSaved = false;
    private final History history = new History();
    private final Text text = new Text();

    public ReplicaSessions() {
    }

    // ---- replicas

    public int addReplica(int rate, int like) {
        history.prepare(now);
        return history.keepUnlessError(startReplica(rate, like));
    }

    public int drop(int replica) {
        history.prepare(now);
        return history.keepUnlessError(removeReplica(replica));
    }

    public int setRate(int replica, int rate) {
        history.prepare(now);
        return history.keepUnlessError(changeRate(replica, rate));
    }

    public int stop(int replica, boolean isStopped) {
        history.prepare(now);
        return history.keepUnlessError(changeStopped(replica, isStopped));
    }

    public int jumpBack(int replica, int position) {
        history.prepare(now);
        return history.keepUnlessError(setBack(replica, position));
    }

    public int tick(int ticks) {
        history.prepare(now);
        return history.keepUnlessError(letTicksPass(ticks));
    }

    public int replicas() {
        return now.replicaMask();
    }

    public int replica(int replica, int part) {
        Replica found = now.findReplica(replica);
        if (found == null) {
            return NO_SUCH;
        }
        switch (part) {
            case 0: return found.rate;
            case 1: return found.isStopped ? 1 : 0;
            case 2: return now.countSessionsAt(replica);
            default: return BAD_VALUE;
        }
    }

    // ---- places and the log

    public int length() {
        return now.log.count;
    }

    public int logged(int number, int part) {
        if (!now.log.contains(number)) {
            return NO_SUCH;
        }
        switch (part) {
            case 0: return now.log.keyOf(number);
            case 1: return now.log.valueOf(number);
            case 2: return now.log.writerOf(number);
            default: return BAD_VALUE;
        }
    }

    public int position(int place) {
        return now.positionOf(place);
    }

    public int version(int place, int key) {
        if (!now.hasPlace(place) || !isKey(key)) {
            return NO_SUCH;
        }
        return now.log.versionAt(now.positionOf(place), key);
    }

    public int value(int place, int key) {
        if (!now.hasPlace(place) || !isKey(key)) {
            return NO_SUCH;
        }
        return now.log.valueOf(now.log.versionAt(now.positionOf(place), key));
    }

    public int missing(int place, int key) {
        if (!now.hasPlace(place) || !isKey(key)) {
            return NO_SUCH;
        }
        return now.log.countAfter(now.positionOf(place), key);
    }

    public int answers(int place) {
        if (place == PRIMARY) {
            return now.primaryAnswers;
        }
        Replica replica = now.findReplica(place);
        return replica == null ? NO_SUCH : replica.answerCount;
    }

    // ---- sessions

    public int open(int home, int options, int bound) {
        history.prepare(now);
        return history.keepUnlessError(startSession(home, options, bound));
    }

    public int close(int session) {
        history.prepare(now);
        return history.keepUnlessError(endSession(session));
    }

    public int move(int session, int home) {
        history.prepare(now);
        return history.keepUnlessError(changeHome(session, home));
    }

    public int change(int session, int options, int bound) {
        history.prepare(now);
        return history.keepUnlessError(changeOptions(session, options, bound));
    }

    public int hand(int session, int other) {
        history.prepare(now);
        return history.keepUnlessError(handMarks(session, other));
    }

    public int sessions() {
        return now.sessionMask();
    }

    public int session(int session, int part) {
        Session found = now.findSession(session);
        if (found == null) {
            return NO_SUCH;
        }
        switch (part) {
            case 0: return found.home;
            case 1: return found.options;
            case 2: return found.bound;
            case 3: return found.ownMark;
            case 4: return found.seenMark;
            case 5: return found.need();
            case 6: return found.readCount;
            case 7: return found.undoingReads;
            case 8: return found.readsGoneBack;
            default: return BAD_VALUE;
        }
    }

    // ---- writing and reading

    public int write(int session, int key, int value) {
        history.prepare(now);
        return history.keepUnlessError(addWrite(session, key, value));
    }

    public int read(int session, int key) {
        history.prepare(now);
        return history.keepUnlessError(readAtHome(session, key));
    }

    public int readAt(int session, int key, int place) {
        history.prepare(now);
        return history.keepUnlessError(readAtPlace(session, key, place));
    }

    public int latest(int part) {
        if (!isWithin(part, 0, 2)) {
            return BAD_VALUE;
        }
        if (now.latestPlace == NONE) {
            return NONE;
        }
        switch (part) {
            case 0: return now.latestPlace;
            case 1: return now.latestVersion;
            default: return now.latestTicks;
        }
    }

    // ---- predictions; they change nothing

    public int waitFor(int session, int key, int place) {
        Session reader = now.findSession(session);
        if (reader == null || !isKey(key) || !now.hasPlace(place)) {
            return NO_SUCH;
        }
        return now.waitOf(reader, key, place);
    }

    public int bestReplica(int session, int key) {
        Session reader = now.findSession(session);
        if (reader == null || !isKey(key)) {
            return NO_SUCH;
        }
        int best = NONE;
        int leastWait = 0;
        for (int number = 0; number < REPLICA_LIMIT; number++) {
            int wait = now.waitOf(reader, key, number);
            if (wait != NONE && (best == NONE || wait < leastWait)) {
                best = number;
                leastWait = wait;
            }
        }
        return best;
    }

    public int keysAfter(int session, int place, int ticks) {
        Session reader = now.findSession(session);
        if (reader == null || !now.hasPlace(place)) {
            return NO_SUCH;
        }
        if (!isWithin(ticks, 0, MOST_TICKS)) {
            return BAD_VALUE;
        }
        int keys = 0;
        for (int key = 0; key < KEY_COUNT; key++) {
            int wait = now.waitOf(reader, key, place);
            if (wait != NONE && wait <= ticks) {
                keys++;
            }
        }
        return keys;
    }

    public int catchUp() {
        int most = 0;
        for (int number = 0; number < REPLICA_LIMIT; number++) {
            Replica replica = now.findReplica(number);
            if (replica != null) {
                int ticks = replica.ticksTo(now.log.count);
                if (ticks == NONE) {
                    return NONE;
                }
                most = Math.max(most, ticks);
            }
        }
        return most;
    }

    // ---- texts

    public int append(int code) {
        if (!isWithin(code, FIRST_CODE, LAST_CODE)) {
            return BAD_VALUE;
        }
        return text.add(code);
    }

    public int clearText() {
        return text.empty();
    }

    public int errorPosition() {
        return text.findError();
    }

    public int execute() {
        if (text.findError() != NONE) {
            return BAD_TEXT;
        }
        history.prepare(now);
        int executed = 0;
        text.rewind();
        while (executed < TEXT_LIMIT && text.readCommand() && !isError(runCommand())) {
            executed++;
            text.readSign(';');
        }
        text.empty();
        return history.keepUnlessError(executed);
    }

    // ---- undo, saved state

    public int undo() {
        return history.takeLatest(now);
    }

    public int save() {
        saved.copyFrom(now);
        isSaved = true;
        return saved.log.count;
    }

    public int restore() {
        if (!isSaved) {
            return NOT_POSSIBLE;
        }
        history.prepare(now);
        now.copyFrom(saved);
        return history.keepUnlessError(now.log.count);
    }

    // ---- what the undoable calls and the commands of a text do, without recording a state

    private int startReplica(int rate, int like) {
        int position = like == NONE ? 0 : now.positionOf(like);
        if (position == NO_SUCH) {
            return NO_SUCH;
        }
        if (!isWithin(rate, 0, MOST_RATE)) {
            return BAD_VALUE;
        }
        return now.takeFreeReplica(rate, position);
    }

    private int removeReplica(int number) {
        Replica replica = now.findReplica(number);
        if (replica == null) {
            return NO_SUCH;
        }
        replica.isThere = false;
        return now.sendSessionsToPrimary(number);
    }

    private int changeRate(int number, int rate) {
        Replica replica = now.findReplica(number);
        if (replica == null) {
            return NO_SUCH;
        }
        if (!isWithin(rate, 0, MOST_RATE)) {
            return BAD_VALUE;
        }
        int previous = replica.rate;
        replica.rate = rate;
        return previous;
    }

    private int changeStopped(int number, boolean isStopped) {
        Replica replica = now.findReplica(number);
        if (replica == null) {
            return NO_SUCH;
        }
        int previous = replica.isStopped ? 1 : 0;
        replica.isStopped = isStopped;
        return previous;
    }

    private int setBack(int number, int position) {
        Replica replica = now.findReplica(number);
        if (replica == null) {
            return NO_SUCH;
        }
        if (!isWithin(position, 0, replica.position)) {
            return BAD_VALUE;
        }
        int previous = replica.position;
        replica.position = position;
        return previous;
    }

    private int letTicksPass(int ticks) {
        if (!isWithin(ticks, 1, MOST_TICKS)) {
            return BAD_VALUE;
        }
        now.passTicks(ticks);
        return now.countCaughtUp();
    }

    private int startSession(int home, int options, int bound) {
        if (!now.hasPlace(home)) {
            return NO_SUCH;
        }
        if (!isWithin(options, 0, MOST_OPTIONS) || !isWithin(bound, 0, MOST_BOUND)) {
            return BAD_VALUE;
        }
        return now.takeFreeSession(home, options, bound);
    }

    private int endSession(int number) {
        Session session = now.findSession(number);
        if (session == null) {
            return NO_SUCH;
        }
        session.isOpen = false;
        return session.seenMark;
    }

    private int changeHome(int number, int home) {
        Session session = now.findSession(number);
        if (session == null || !now.hasPlace(home)) {
            return NO_SUCH;
        }
        int previous = session.home;
        session.home = home;
        return previous;
    }

    private int changeOptions(int number, int options, int bound) {
        Session session = now.findSession(number);
        if (session == null) {
            return NO_SUCH;
        }
        if (!isWithin(options, 0, MOST_OPTIONS) || !isWithin(bound, 0, MOST_BOUND)) {
            return BAD_VALUE;
        }
        int previous = session.options;
        session.options = options;
        session.bound = bound;
        return previous;
    }

    private int handMarks(int number, int other) {
        Session giver = now.findSession(number);
        Session taker = now.findSession(other);
        if (giver == null || taker == null) {
            return NO_SUCH;
        }
        if (number == other) {
            return BAD_VALUE;
        }
        taker.seenMark = Math.max(taker.seenMark, Math.max(giver.ownMark, giver.seenMark));
        return taker.seenMark;
    }

    private int addWrite(int number, int key, int value) {
        Session writer = now.findSession(number);
        if (writer == null || !isKey(key)) {
            return NO_SUCH;
        }
        if (!isWithin(value, 0, MOST_VALUE)) {
            return BAD_VALUE;
        }
        int write = now.log.add(key, value, number);
        if (write != LIMIT) {
            writer.noteWrite(key, write);
        }
        return write;
    }

    private int readAtHome(int number, int key) {
        Session reader = now.findSession(number);
        if (reader == null || !isKey(key)) {
            return NO_SUCH;
        }
        int wait = now.waitOf(reader, key, reader.home);
        if (wait != NONE && wait <= reader.bound) {
            now.passTicks(wait);
            return now.answer(reader, key, reader.home, wait);
        }
        // The primary is never behind a mark, so it needs no look at whether it can answer.
        return reader.has(FALL_BACK) ? now.answer(reader, key, PRIMARY, 0) : NOT_POSSIBLE;
    }

    private int readAtPlace(int number, int key, int place) {
        Session reader = now.findSession(number);
        if (reader == null || !isKey(key) || !now.hasPlace(place)) {
            return NO_SUCH;
        }
        return now.waitOf(reader, key, place) == 0 ? now.answer(reader, key, place, 0) : NOT_POSSIBLE;
    }

    private int runCommand() {
        int first = text.argument(0);
        int second = text.argument(1);
        switch (text.letter) {
            case 'w': return addWrite(first, second, text.argument(2));
            case 'r': return readAtHome(first, second);
            case 't': return letTicksPass(first);
            case 'm': return changeHome(first, second);
            case 'h': return handMarks(first, second);
            case 'j': return setBack(first, second);
            default: return BAD_TEXT;
        }
    }

    private static boolean isWithin(int number, int least, int most) {
        return number >= least && number <= most;
    }

    private static boolean isKey(int key) {
        return isWithin(key, 0, KEY_COUNT - 1);
    }

    private static boolean isError(int result) {
        return isWithin(result, BAD_TEXT, NO_SUCH);
    }

    /** The writes, numbered from 1. */
    private static final class Log {
        int count = 0;
        private final int[] keys = new int[WRITE_LIMIT];
        private final int[] values = new int[WRITE_LIMIT];
        private final int[] writers = new int[WRITE_LIMIT];

        boolean contains(int number) {
            return number >= 1 && number <= count && number <= WRITE_LIMIT;
        }

        int keyOf(int number) {
            return contains(number) ? keys[number - 1] : NONE;
        }

        int valueOf(int number) {
            return contains(number) ? values[number - 1] : NONE;
        }

        int writerOf(int number) {
            return contains(number) ? writers[number - 1] : NONE;
        }

        /** Returns the number of the new write, or LIMIT. */
        int add(int key, int value, int writer) {
            if (count < 0 || count >= WRITE_LIMIT) {
                return LIMIT;
            }
            keys[count] = key;
            values[count] = value;
            writers[count] = writer;
            count++;
            return count;
        }

        /** The latest write of the key among the first ones up to the position, or 0. */
        int versionAt(int position, int key) {
            int number = Math.min(position, count);
            while (number > 0 && keyOf(number) != key) {
                number--;
            }
            return number;
        }

        int countAfter(int position, int key) {
            int writes = 0;
            for (int number = count; number > position && number > 0; number--) {
                if (keyOf(number) == key) {
                    writes++;
                }
            }
            return writes;
        }

        void copyFrom(Log other) {
            count = other.count;
            System.arraycopy(other.keys, 0, keys, 0, WRITE_LIMIT);
            System.arraycopy(other.values, 0, values, 0, WRITE_LIMIT);
            System.arraycopy(other.writers, 0, writers, 0, WRITE_LIMIT);
        }
    }

    /** A replica, or the free room for one. */
    private static final class Replica {
        boolean isThere = false;
        int position = 0;
        int rate = 0;
        boolean isStopped = false;
        int answerCount = 0;

        void begin(int newRate, int newPosition) {
            isThere = true;
            position = newPosition;
            rate = newRate;
            isStopped = false;
            answerCount = 0;
        }

        /** The ticks until the replica has reached the position, or NONE if it never does. */
        int ticksTo(int target) {
            if (position >= target) {
                return 0;
            }
            if (isStopped || rate <= 0) {
                return NONE;
            }
            return (target - position + rate - 1) / rate;
        }

        void passTicks(int ticks, int logLength) {
            if (!isStopped) {
                position = Math.min(position + rate * ticks, logLength);
            }
        }

        void copyFrom(Replica other) {
            isThere = other.isThere;
            position = other.position;
            rate = other.rate;
            isStopped = other.isStopped;
            answerCount = other.answerCount;
        }
    }

    /** A session, or the free room for one. */
    private static final class Session {
        boolean isOpen = false;
        int home = PRIMARY;
        int options = 0;
        int bound = 0;
        int ownMark = 0;
        int seenMark = 0;
        int readCount = 0;
        int undoingReads = 0;
        int readsGoneBack = 0;
        // The log alone does not tell a session's writes: a closed session with the same number
        // may have made them.
        private final int[] latestWrites = new int[KEY_COUNT];
        private final int[] greatestReads = new int[KEY_COUNT];

        void begin(int newHome, int newOptions, int newBound) {
            isOpen = true;
            home = newHome;
            options = newOptions;
            bound = newBound;
            ownMark = 0;
            seenMark = 0;
            readCount = 0;
            undoingReads = 0;
            readsGoneBack = 0;
            Arrays.fill(latestWrites, 0);
            Arrays.fill(greatestReads, 0);
        }

        boolean has(int option) {
            return (options & option) != 0;
        }

        int need() {
            return Math.max(has(OWN) ? ownMark : 0, has(SEEN) ? seenMark : 0);
        }

        void noteWrite(int key, int number) {
            ownMark = number;
            if (isKey(key)) {
                latestWrites[key] = number;
            }
        }

        void noteRead(int key, int version, int position) {
            readCount++;
            seenMark = Math.max(seenMark, position);
            if (!isKey(key)) {
                return;
            }
            if (latestWrites[key] > version) {
                undoingReads++;
            }
            if (greatestReads[key] > version) {
                readsGoneBack++;
            }
            greatestReads[key] = Math.max(greatestReads[key], version);
        }

        void copyFrom(Session other) {
            isOpen = other.isOpen;
            home = other.home;
            options = other.options;
            bound = other.bound;
            ownMark = other.ownMark;
            seenMark = other.seenMark;
            readCount = other.readCount;
            undoingReads = other.undoingReads;
            readsGoneBack = other.readsGoneBack;
            System.arraycopy(other.latestWrites, 0, latestWrites, 0, KEY_COUNT);
            System.arraycopy(other.greatestReads, 0, greatestReads, 0, KEY_COUNT);
        }
    }

    /** All that undo() and restore() bring back. */
    private static final class State {
        final Log log = new Log();
        private final Replica[] replicas = new Replica[REPLICA_LIMIT];
        private final Session[] sessions = new Session[SESSION_LIMIT];
        int primaryAnswers = 0;
        int latestPlace = NONE;
        int latestVersion = 0;
        int latestTicks = 0;

        State() {
            for (int number = 0; number < REPLICA_LIMIT; number++) {
                replicas[number] = new Replica();
            }
            for (int number = 0; number < SESSION_LIMIT; number++) {
                sessions[number] = new Session();
            }
        }

        /** Returns null if there is no such replica. */
        Replica findReplica(int number) {
            if (!isWithin(number, 0, REPLICA_LIMIT - 1)) {
                return null;
            }
            Replica replica = replicas[number];
            return replica != null && replica.isThere ? replica : null;
        }

        /** Returns null if there is no such session. */
        Session findSession(int number) {
            if (!isWithin(number, 0, SESSION_LIMIT - 1)) {
                return null;
            }
            Session session = sessions[number];
            return session != null && session.isOpen ? session : null;
        }

        /** Returns the number of the new replica, or LIMIT. */
        int takeFreeReplica(int rate, int position) {
            for (int number = 0; number < REPLICA_LIMIT; number++) {
                Replica replica = replicas[number];
                if (replica != null && !replica.isThere) {
                    replica.begin(rate, position);
                    return number;
                }
            }
            return LIMIT;
        }

        /** Returns the number of the new session, or LIMIT. */
        int takeFreeSession(int home, int options, int bound) {
            for (int number = 0; number < SESSION_LIMIT; number++) {
                Session session = sessions[number];
                if (session != null && !session.isOpen) {
                    session.begin(home, options, bound);
                    return number;
                }
            }
            return LIMIT;
        }

        int replicaMask() {
            int mask = 0;
            for (int number = 0; number < REPLICA_LIMIT; number++) {
                if (findReplica(number) != null) {
                    mask |= 1 << number;
                }
            }
            return mask;
        }

        int sessionMask() {
            int mask = 0;
            for (int number = 0; number < SESSION_LIMIT; number++) {
                if (findSession(number) != null) {
                    mask |= 1 << number;
                }
            }
            return mask;
        }

        int countSessionsAt(int place) {
            int count = 0;
            for (int number = 0; number < SESSION_LIMIT; number++) {
                Session session = findSession(number);
                if (session != null && session.home == place) {
                    count++;
                }
            }
            return count;
        }

        /** Returns the number of sessions whose home was the place. */
        int sendSessionsToPrimary(int place) {
            int count = 0;
            for (int number = 0; number < SESSION_LIMIT; number++) {
                Session session = findSession(number);
                if (session != null && session.home == place) {
                    session.home = PRIMARY;
                    count++;
                }
            }
            return count;
        }

        boolean hasPlace(int place) {
            return place == PRIMARY || findReplica(place) != null;
        }

        /** Returns NO_SUCH if there is no such place. */
        int positionOf(int place) {
            if (place == PRIMARY) {
                return log.count;
            }
            Replica replica = findReplica(place);
            return replica == null ? NO_SUCH : replica.position;
        }

        void passTicks(int ticks) {
            for (int number = 0; number < REPLICA_LIMIT; number++) {
                Replica replica = findReplica(number);
                if (replica != null) {
                    replica.passTicks(ticks, log.count);
                }
            }
        }

        int countCaughtUp() {
            int count = 0;
            for (int number = 0; number < REPLICA_LIMIT; number++) {
                Replica replica = findReplica(number);
                if (replica != null && replica.position == log.count) {
                    count++;
                }
            }
            return count;
        }

        /** The least position from which a place can answer the session about the key. */
        private int neededPosition(Session session, int key) {
            int need = session.need();
            return session.has(SHARP) ? log.versionAt(need, key) : need;
        }

        /** Returns NONE if the place never could answer, or is none. */
        int waitOf(Session session, int key, int place) {
            if (place == PRIMARY) {
                return 0;
            }
            Replica replica = findReplica(place);
            return replica == null ? NONE : replica.ticksTo(neededPosition(session, key));
        }

        /** Answers a session from a place that can answer it; returns the value or NONE. */
        int answer(Session session, int key, int place, int ticks) {
            int position = positionOf(place);
            int version = log.versionAt(position, key);
            session.noteRead(key, version, position);
            countAnswer(place);
            latestPlace = place;
            latestVersion = version;
            latestTicks = ticks;
            return log.valueOf(version);
        }

        private void countAnswer(int place) {
            Replica replica = findReplica(place);
            if (replica == null) {
                primaryAnswers++;
            } else {
                replica.answerCount++;
            }
        }

        void copyFrom(State other) {
            log.copyFrom(other.log);
            for (int number = 0; number < REPLICA_LIMIT; number++) {
                Replica from = other.replicas[number];
                Replica to = replicas[number];
                if (from != null && to != null) {
                    to.copyFrom(from);
                }
            }
            for (int number = 0; number < SESSION_LIMIT; number++) {
                Session from = other.sessions[number];
                Session to = sessions[number];
                if (from != null && to != null) {
                    to.copyFrom(from);
                }
            }
            primaryAnswers = other.primaryAnswers;
            latestPlace = other.latestPlace;
            latestVersion = other.latestVersion;
            latestTicks = other.latestTicks;
        }
    }

    /**
     * The recorded states, in a ring. It has one state more than may be recorded, so that a call
     * can be prepared before it is known whether it returns an error code.
     */
    private static final class History {
        private static final int SIZE = UNDO_LIMIT + 1;

        private final State[] states = new State[SIZE];
        private int oldest = 0;
        private int count = 0;

        History() {
            for (int index = 0; index < SIZE; index++) {
                states[index] = new State();
            }
        }

        void prepare(State current) {
            State spare = stateAfterOldest(count);
            if (spare != null) {
                spare.copyFrom(current);
            }
        }

        /** Records the prepared state if the result is no error code; returns the result. */
        int keepUnlessError(int result) {
            if (!isError(result)) {
                if (count < UNDO_LIMIT) {
                    count++;
                } else {
                    oldest = Math.floorMod(oldest + 1, SIZE);
                }
            }
            return result;
        }

        /** Returns the number of states that remain, or NOT_POSSIBLE. */
        int takeLatest(State current) {
            State latest = count > 0 ? stateAfterOldest(count - 1) : null;
            if (latest == null) {
                return NOT_POSSIBLE;
            }
            current.copyFrom(latest);
            count--;
            return count;
        }

        private State stateAfterOldest(int distance) {
            int index = Math.floorMod(oldest + distance, SIZE);
            return isWithin(index, 0, SIZE - 1) ? states[index] : null;
        }
    }

    /** The buffer, and a reader that goes through its commands. */
    private static final class Text {
        private final int[] codes = new int[TEXT_LIMIT];
        private int count = 0;
        private int at = 0;
        int letter = 0;
        private final int[] arguments = new int[3];
        private int argumentCount = 0;

        /** Returns the number of characters then, or LIMIT. */
        int add(int code) {
            if (count < 0 || count >= TEXT_LIMIT) {
                return LIMIT;
            }
            codes[count] = code;
            count++;
            return count;
        }

        /** Returns the number of characters that there were. */
        int empty() {
            int previous = count;
            count = 0;
            return previous;
        }

        /** The first error, the end of an unfinished text, or NONE. */
        int findError() {
            rewind();
            for (int commands = 0; commands < TEXT_LIMIT; commands++) {
                if (!readCommand()) {
                    return at;
                }
                if (at == count) {
                    return NONE;
                }
                if (!readSign(';')) {
                    return at;
                }
            }
            return at;
        }

        void rewind() {
            at = 0;
        }

        /** If no command stands here, the reader stops at the first character that is wrong. */
        boolean readCommand() {
            letter = codeHere();
            argumentCount = 0;
            switch (letter) {
                case 'w': return readSign('w') && readDigit() && readSign(':') && readNumber()
                        && readSign('=') && readNumber();
                case 'r': return readSign('r') && readDigit() && readSign(':') && readNumber();
                case 't': return readSign('t') && readNumber();
                case 'm': return readSign('m') && readDigit() && readSign('>') && readPlace();
                case 'h': return readSign('h') && readDigit() && readSign('>') && readDigit();
                case 'j': return readSign('j') && readDigit() && readSign('@') && readNumber();
                default: return false;
            }
        }

        int argument(int index) {
            return isWithin(index, 0, arguments.length - 1) ? arguments[index] : NONE;
        }

        boolean readSign(int sign) {
            if (codeHere() != sign) {
                return false;
            }
            at++;
            return true;
        }

        private boolean readDigit() {
            return isWithin(codeHere(), '0', '9') && addArgument(takeDigit());
        }

        /** A number that begins with 0 ends behind it, and none has more than three digits. */
        private boolean readNumber() {
            if (!isWithin(codeHere(), '0', '9')) {
                return false;
            }
            int number = takeDigit();
            for (int digits = 1; digits < 3 && number > 0 && isWithin(codeHere(), '0', '9'); digits++) {
                number = 10 * number + takeDigit();
            }
            return addArgument(number);
        }

        private boolean readPlace() {
            if (isWithin(codeHere(), '0', '0' + REPLICA_LIMIT - 1)) {
                return addArgument(takeDigit());
            }
            return readSign('p') && addArgument(PRIMARY);
        }

        private boolean addArgument(int number) {
            if (!isWithin(argumentCount, 0, arguments.length - 1)) {
                return false;
            }
            arguments[argumentCount] = number;
            argumentCount++;
            return true;
        }

        private int takeDigit() {
            int digit = codeHere() - '0';
            at++;
            return digit;
        }

        /** Returns 0, which no character has, behind the end. */
        private int codeHere() {
            return at >= 0 && at < count && at < TEXT_LIMIT ? codes[at] : 0;
        }
    }
}
