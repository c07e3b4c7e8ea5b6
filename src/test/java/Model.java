import java.util.ArrayList;
import java.util.List;
import java.util.Map;
import java.util.TreeMap;

/**
 * The document once more, as plainly and as slowly as can be: what the program computes is looked
 * for here by trying, so that both are not wrong in the same way.
 */
final class Model {
    private static final int NO_SUCH = -1, BAD_VALUE = -2, NOT_POSSIBLE = -3, LIMIT = -4, BAD_TEXT = -5, NONE = -6;
    private static final int PRIMARY = 9;

    private record Write(int key, int value, int session) {
    }

    private record Place(int position, int rate, boolean isStopped, int answers) {
        Place at(int newPosition) {
            return new Place(newPosition, rate, isStopped, answers);
        }

        Place afterTick(int length) {
            return isStopped ? this : at(Math.min(length, position + rate));
        }
    }

    /** The numbers of own writes, and the reads of the session as pairs of key and version. */
    private record Reader(int home, int options, int bound, int own, int seen, List<Integer> writes,
            List<int[]> reads, int undid, int wentBack) {
        boolean has(int option) {
            return options / option % 2 == 1;
        }

        Reader to(int newHome) {
            return new Reader(newHome, options, bound, own, seen, writes, reads, undid, wentBack);
        }

        Reader with(int newOptions, int newBound) {
            return new Reader(home, newOptions, newBound, own, seen, writes, reads, undid, wentBack);
        }

        Reader seeing(int newSeen) {
            return new Reader(home, options, bound, own, newSeen, writes, reads, undid, wentBack);
        }
    }

    private static final class State {
        final List<Write> log = new ArrayList<>();
        final Map<Integer, Place> replicas = new TreeMap<>();
        final Map<Integer, Reader> sessions = new TreeMap<>();
        int primaryAnswers;
        int[] latest;

        State copy() {
            State copy = new State();
            copy.log.addAll(log);
            copy.replicas.putAll(replicas);
            copy.sessions.putAll(sessions);
            copy.primaryAnswers = primaryAnswers;
            copy.latest = latest;
            return copy;
        }
    }

    private interface Call {
        int run();
    }

    private State now = new State();
    private State saved;
    private final List<State> recorded = new ArrayList<>();
    private String text = "";

    private int undoable(Call call) {
        State before = now.copy();
        int result = call.run();
        if (result >= 0 || result == NONE) {
            recorded.add(before);
            if (recorded.size() == 6) {
                recorded.remove(0);
            }
        } else {
            now = before;
        }
        return result;
    }

    private static boolean isIn(int number, int low, int high) {
        return low <= number && number <= high;
    }

    private static <T> int lowestFree(Map<Integer, T> taken) {
        int number = 0;
        while (taken.containsKey(number)) {
            number++;
        }
        return number;
    }

    private boolean hasPlace(int place) {
        return place == PRIMARY || now.replicas.containsKey(place);
    }

    private int versionIn(List<Write> log, int position, int key) {
        int version = 0;
        for (int i = 1; i <= position; i++) {
            if (log.get(i - 1).key() == key) {
                version = i;
            }
        }
        return version;
    }

    // ---- replicas

    int addReplica(int rate, int like) {
        return undoable(() -> {
            if (like != NONE && !hasPlace(like)) return NO_SUCH;
            if (!isIn(rate, 0, 9)) return BAD_VALUE;
            if (now.replicas.size() == 5) return LIMIT;
            int position = like == NONE ? 0 : position(like);
            int number = lowestFree(now.replicas);
            now.replicas.put(number, new Place(position, rate, false, 0));
            return number;
        });
    }

    int drop(int replica) {
        return undoable(() -> {
            if (now.replicas.remove(replica) == null) return NO_SUCH;
            int moved = 0;
            for (Map.Entry<Integer, Reader> entry : now.sessions.entrySet()) {
                if (entry.getValue().home() == replica) {
                    entry.setValue(entry.getValue().to(PRIMARY));
                    moved++;
                }
            }
            return moved;
        });
    }

    int setRate(int replica, int rate) {
        return undoable(() -> {
            Place place = now.replicas.get(replica);
            if (place == null) return NO_SUCH;
            if (!isIn(rate, 0, 9)) return BAD_VALUE;
            now.replicas.put(replica, new Place(place.position(), rate, place.isStopped(), place.answers()));
            return place.rate();
        });
    }

    int stop(int replica, boolean isStopped) {
        return undoable(() -> {
            Place place = now.replicas.get(replica);
            if (place == null) return NO_SUCH;
            now.replicas.put(replica, new Place(place.position(), place.rate(), isStopped, place.answers()));
            return place.isStopped() ? 1 : 0;
        });
    }

    private int jump(int replica, int position) {
        Place place = now.replicas.get(replica);
        if (place == null) return NO_SUCH;
        if (!isIn(position, 0, place.position())) return BAD_VALUE;
        now.replicas.put(replica, place.at(position));
        return place.position();
    }

    int jumpBack(int replica, int position) {
        return undoable(() -> jump(replica, position));
    }

    private int passing(int ticks) {
        if (!isIn(ticks, 1, 99)) return BAD_VALUE;
        for (int i = 0; i < ticks; i++) {
            now.replicas.replaceAll((number, place) -> place.afterTick(length()));
        }
        return (int) now.replicas.values().stream().filter(place -> place.position() == length()).count();
    }

    int tick(int ticks) {
        return undoable(() -> passing(ticks));
    }

    int replicas() {
        return now.replicas.keySet().stream().mapToInt(number -> 1 << number).sum();
    }

    int replica(int replica, int part) {
        Place place = now.replicas.get(replica);
        if (place == null) return NO_SUCH;
        if (!isIn(part, 0, 2)) return BAD_VALUE;
        if (part == 0) return place.rate();
        if (part == 1) return place.isStopped() ? 1 : 0;
        return (int) now.sessions.values().stream().filter(session -> session.home() == replica).count();
    }

    // ---- places and the log

    int length() {
        return now.log.size();
    }

    int logged(int number, int part) {
        if (!isIn(number, 1, length())) return NO_SUCH;
        if (!isIn(part, 0, 2)) return BAD_VALUE;
        Write write = now.log.get(number - 1);
        return part == 0 ? write.key() : part == 1 ? write.value() : write.session();
    }

    int position(int place) {
        if (!hasPlace(place)) return NO_SUCH;
        return place == PRIMARY ? length() : now.replicas.get(place).position();
    }

    int version(int place, int key) {
        if (!hasPlace(place) || !isIn(key, 0, 11)) return NO_SUCH;
        return versionIn(now.log, position(place), key);
    }

    int value(int place, int key) {
        int version = version(place, key);
        if (version < 0) return NO_SUCH;
        return version == 0 ? NONE : now.log.get(version - 1).value();
    }

    int missing(int place, int key) {
        if (!hasPlace(place) || !isIn(key, 0, 11)) return NO_SUCH;
        return (int) now.log.stream().skip(position(place)).filter(write -> write.key() == key).count();
    }

    int answers(int place) {
        if (!hasPlace(place)) return NO_SUCH;
        return place == PRIMARY ? now.primaryAnswers : now.replicas.get(place).answers();
    }

    // ---- sessions

    int open(int home, int options, int bound) {
        return undoable(() -> {
            if (!hasPlace(home)) return NO_SUCH;
            if (!isIn(options, 0, 15) || !isIn(bound, 0, 20)) return BAD_VALUE;
            if (now.sessions.size() == 8) return LIMIT;
            int number = lowestFree(now.sessions);
            now.sessions.put(number, new Reader(home, options, bound, 0, 0, List.of(), List.of(), 0, 0));
            return number;
        });
    }

    int close(int session) {
        return undoable(() -> {
            Reader closed = now.sessions.remove(session);
            return closed == null ? NO_SUCH : closed.seen();
        });
    }

    private int going(int session, int home) {
        Reader reader = now.sessions.get(session);
        if (reader == null || !hasPlace(home)) return NO_SUCH;
        now.sessions.put(session, reader.to(home));
        return reader.home();
    }

    int move(int session, int home) {
        return undoable(() -> going(session, home));
    }

    int change(int session, int options, int bound) {
        return undoable(() -> {
            Reader reader = now.sessions.get(session);
            if (reader == null) return NO_SUCH;
            if (!isIn(options, 0, 15) || !isIn(bound, 0, 20)) return BAD_VALUE;
            now.sessions.put(session, reader.with(options, bound));
            return reader.options();
        });
    }

    private int handing(int session, int other) {
        Reader giver = now.sessions.get(session);
        Reader taker = now.sessions.get(other);
        if (giver == null || taker == null) return NO_SUCH;
        if (session == other) return BAD_VALUE;
        int seen = Math.max(taker.seen(), Math.max(giver.own(), giver.seen()));
        now.sessions.put(other, taker.seeing(seen));
        return seen;
    }

    int hand(int session, int other) {
        return undoable(() -> handing(session, other));
    }

    int sessions() {
        return now.sessions.keySet().stream().mapToInt(number -> 1 << number).sum();
    }

    private int need(Reader reader) {
        int own = reader.has(1) ? reader.own() : 0;
        int seen = reader.has(2) ? reader.seen() : 0;
        return own > seen ? own : seen;
    }

    int session(int session, int part) {
        Reader reader = now.sessions.get(session);
        if (reader == null) return NO_SUCH;
        if (!isIn(part, 0, 8)) return BAD_VALUE;
        return new int[] {reader.home(), reader.options(), reader.bound(), reader.own(), reader.seen(), need(reader),
            reader.reads().size(), reader.undid(), reader.wentBack()}[part];
    }

    // ---- writing and reading

    private int writing(int session, int key, int value) {
        Reader old = now.sessions.get(session);
        if (old == null || !isIn(key, 0, 11)) return NO_SUCH;
        if (!isIn(value, 0, 999)) return BAD_VALUE;
        if (length() == 200) return LIMIT;
        now.log.add(new Write(key, value, session));
        List<Integer> writes = new ArrayList<>(old.writes());
        writes.add(length());
        now.sessions.put(session, new Reader(old.home(), old.options(), old.bound(), length(), old.seen(), writes,
            old.reads(), old.undid(), old.wentBack()));
        return length();
    }

    int write(int session, int key, int value) {
        return undoable(() -> writing(session, key, value));
    }

    private boolean canAnswer(Reader reader, int key, int position) {
        return position >= need(reader) || reader.has(4) && versionIn(now.log, need(reader), key) <= position;
    }

    private int answer(int session, int key, int place, int ticks) {
        Reader old = now.sessions.get(session);
        int position = position(place);
        int version = version(place, key);
        boolean undoes = old.writes().stream().anyMatch(number -> now.log.get(number - 1).key() == key && number > version);
        boolean goesBack = old.reads().stream().anyMatch(read -> read[0] == key && read[1] > version);
        List<int[]> reads = new ArrayList<>(old.reads());
        reads.add(new int[] {key, version});
        now.sessions.put(session, new Reader(old.home(), old.options(), old.bound(), old.own(),
            Math.max(old.seen(), position), old.writes(), reads, old.undid() + (undoes ? 1 : 0),
            old.wentBack() + (goesBack ? 1 : 0)));
        if (place == PRIMARY) {
            now.primaryAnswers++;
        } else {
            Place at = now.replicas.get(place);
            now.replicas.put(place, new Place(at.position(), at.rate(), at.isStopped(), at.answers() + 1));
        }
        now.latest = new int[] {place, version, ticks};
        return version == 0 ? NONE : now.log.get(version - 1).value();
    }

    private int reading(int session, int key) {
        if (!now.sessions.containsKey(session) || !isIn(key, 0, 11)) return NO_SUCH;
        Reader reader = now.sessions.get(session);
        int wait = waitFor(session, key, reader.home());
        if (wait != NONE && wait <= reader.bound()) {
            if (wait > 0) {
                passing(wait);
            }
            return answer(session, key, reader.home(), wait);
        }
        if (reader.has(8) && canAnswer(reader, key, length())) return answer(session, key, PRIMARY, 0);
        return NOT_POSSIBLE;
    }

    int read(int session, int key) {
        return undoable(() -> reading(session, key));
    }

    int readAt(int session, int key, int place) {
        return undoable(() -> {
            if (!now.sessions.containsKey(session) || !isIn(key, 0, 11) || !hasPlace(place)) return NO_SUCH;
            if (!canAnswer(now.sessions.get(session), key, position(place))) return NOT_POSSIBLE;
            return answer(session, key, place, 0);
        });
    }

    int latest(int part) {
        if (!isIn(part, 0, 2)) return BAD_VALUE;
        return now.latest == null ? NONE : now.latest[part];
    }

    // ---- predictions

    private Place asPlace(int place) {
        return place == PRIMARY ? new Place(length(), 0, false, 0) : now.replicas.get(place);
    }

    int waitFor(int session, int key, int place) {
        Reader reader = now.sessions.get(session);
        if (reader == null || !isIn(key, 0, 11) || !hasPlace(place)) return NO_SUCH;
        Place at = asPlace(place);
        for (int ticks = 0; ticks <= 200; ticks++) {
            if (canAnswer(reader, key, at.position())) return ticks;
            at = at.afterTick(length());
        }
        return NONE;
    }

    int bestReplica(int session, int key) {
        if (!now.sessions.containsKey(session) || !isIn(key, 0, 11)) return NO_SUCH;
        for (int ticks = 0; ticks <= 200; ticks++) {
            for (int number : now.replicas.keySet()) {
                if (waitFor(session, key, number) == ticks) return number;
            }
        }
        return NONE;
    }

    int keysAfter(int session, int place, int ticks) {
        Reader reader = now.sessions.get(session);
        if (reader == null || !hasPlace(place)) return NO_SUCH;
        if (!isIn(ticks, 0, 99)) return BAD_VALUE;
        Place at = asPlace(place);
        for (int i = 0; i < ticks; i++) {
            at = at.afterTick(length());
        }
        int keys = 0;
        for (int key = 0; key < 12; key++) {
            keys += canAnswer(reader, key, at.position()) ? 1 : 0;
        }
        return keys;
    }

    int catchUp() {
        Map<Integer, Place> then = new TreeMap<>(now.replicas);
        for (int ticks = 0; ticks <= 200; ticks++) {
            if (then.values().stream().allMatch(place -> place.position() == length())) return ticks;
            then.replaceAll((number, place) -> place.afterTick(length()));
        }
        return NONE;
    }

    // ---- texts

    int append(int code) {
        if (!isIn(code, 33, 126)) return BAD_VALUE;
        if (text.length() == 80) return LIMIT;
        text += (char) code;
        return text.length();
    }

    int clearText() {
        int length = text.length();
        text = "";
        return length;
    }

    private static boolean isText(String text) {
        String number = "(0|[1-9][0-9]{0,2})";
        String command = "(w[0-9]:" + number + "=" + number + "|r[0-9]:" + number + "|t" + number
            + "|m[0-9]>[01234p]|h[0-9]>[0-9]|j[0-9]@" + number + ")";
        return text.matches(command + "(;" + command + ")*");
    }

    /** Whether a text begins so: one of the ends of the shortest commands makes it a text then. */
    private static boolean isBeginning(String start) {
        for (String command : new String[] {"w0:0=0", "r0:0", "t0", "m0>0", "h0>0", "j0@0"}) {
            for (int i = 0; i <= command.length(); i++) {
                if (isText(start + command.substring(i))) return true;
            }
        }
        return false;
    }

    int errorPosition() {
        for (int i = 0; i < text.length(); i++) {
            if (!isBeginning(text.substring(0, i + 1))) return i;
        }
        return isText(text) ? NONE : text.length();
    }

    private int command(String command) {
        String[] parts = command.substring(1).replace("p", "9").split("[:=>@]");
        int[] numbers = new int[parts.length];
        for (int i = 0; i < parts.length; i++) {
            numbers[i] = Integer.parseInt(parts[i]);
        }
        switch (command.charAt(0)) {
            case 'w': return writing(numbers[0], numbers[1], numbers[2]);
            case 'r': return reading(numbers[0], numbers[1]);
            case 't': return passing(numbers[0]);
            case 'm': return going(numbers[0], numbers[1]);
            case 'h': return handing(numbers[0], numbers[1]);
            default: return jump(numbers[0], numbers[1]);
        }
    }

    int execute() {
        if (!isText(text)) return BAD_TEXT;
        String[] commands = text.split(";");
        text = "";
        return undoable(() -> {
            int executed = 0;
            for (String command : commands) {
                int result = command(command);
                if (result < 0 && result != NONE) break;
                executed++;
            }
            return executed;
        });
    }

    // ---- undo, saved state

    int undo() {
        if (recorded.isEmpty()) return NOT_POSSIBLE;
        now = recorded.remove(recorded.size() - 1);
        return recorded.size();
    }

    int save() {
        saved = now.copy();
        return length();
    }

    int restore() {
        return undoable(() -> {
            if (saved == null) return NOT_POSSIBLE;
            now = saved.copy();
            return length();
        });
    }
}
