import java.util.List;

/** Promises 32 to 38, and the terms texts and undo: the edges that their sentences name. */
public final class EdgesOfTextsTest {
    private static final Checks checks = new Checks();

    public static void main(String[] args) {
        eightyCharacters();
        emptiedBuffers();
        whatMayFollow();
        textsOfEachLength();
        endsOfTexts();
        bufferThatIsNoText();
        commandsAtTheirEdges();
        refusedFirstMiddleAndLast();
        noneStopsNothing();
        oneStateForAll();
        mostCommands();
        fiveStates();
        manyRounds();
        noDifferenceAndErrors();
        whatUndoLeaves();
        savedAtTheEdges();
        restoredAgain();
        checks.finish();
    }

    private static ReplicaSessions typed(String text) {
        ReplicaSessions x = new ReplicaSessions();
        Checks.type(x, text);
        return x;
    }

    /** "A buffer of at most 80 characters", "code: 33 to 126" */
    private static void eightyCharacters() {
        ReplicaSessions x = new ReplicaSessions();
        checks.due(32, "the first character", x.append(33), 1);
        checks.due(32, "below the least code", x.append(32), -2);
        checks.due(32, "beyond the most code", x.append(127), -2);
        for (int i = 2; i <= 79; i++) {
            x.append(126);
        }
        checks.due(32, "the 80th", x.append(126), 80);
        checks.due(32, "the 81st", x.append(33), -4);
        checks.due(32, "the 81st with the most code", x.append(126), -4);
        checks.due(32, "the 81st with a bad code", x.append(127), -2);
        checks.due(34, "the first error", x.errorPosition(), 0);
        checks.due(33, "all of them", x.clearText(), 80);
        checks.due(32, "the first again", x.append('t'), 1);
        checks.due(34, "nothing is left of the others", x.errorPosition(), 1);
    }

    private static void emptiedBuffers() {
        ReplicaSessions x = new ReplicaSessions();
        checks.due(33, "none", x.clearText(), 0);
        checks.due(34, "an empty buffer is no text", x.errorPosition(), 0);
        x.append('x');
        checks.due(33, "one", x.clearText(), 1);
        checks.due(33, "none again", x.clearText(), 0);
        Checks.type(x, "t1");
        x.append('0');
        checks.due(35, "execute", x.execute(), 1);
        checks.due(33, "none after execute", x.clearText(), 0);
        checks.due(34, "none after execute", x.errorPosition(), 0);
    }

    /** Each of the 94 characters behind a beginning: those that may follow, and no other one. */
    private static void follow(String start, String allowed) {
        for (int code = 33; code <= 126; code++) {
            ReplicaSessions x = typed(start);
            x.append(code);
            boolean isError = x.errorPosition() == start.length();
            boolean isAllowed = allowed.indexOf(code) >= 0;
            checks.holds("promise 34: " + (char) code + (isAllowed ? " may" : " may not") + " follow " + start,
                isError != isAllowed);
        }
    }

    private static void whatMayFollow() {
        String digits = "0123456789";
        for (String before : new String[] {"", "t1;", "r0:7;m1>p;"}) {
            follow(before, "wrtmhj");
            for (String letter : new String[] {"w", "r", "m", "h", "j"}) {
                follow(before + letter, digits);
            }
            follow(before + "t", digits);
        }
        for (String number : new String[] {"0", "1", "9", "10", "99", "100", "999"}) {
            String more = number.equals("0") || number.length() == 3 ? "" : digits;
            follow("w3:" + number, more + "=");
            follow("w3:5=" + number, more + ";");
            follow("r3:" + number, more + ";");
            follow("t" + number, more + ";");
            follow("j3@" + number, more + ";");
        }
        for (String digit : new String[] {"0", "5", "8", "9"}) {
            follow("w" + digit, ":");
            follow("r" + digit, ":");
            follow("m" + digit, ">");
            follow("h" + digit, ">");
            follow("j" + digit, "@");
            follow("h1>" + digit, ";");
        }
        follow("w1:", digits);
        follow("w1:2=", digits);
        follow("r1:", digits);
        follow("m1>", "01234p");
        follow("m1>0", ";");
        follow("m1>4", ";");
        follow("m1>p", ";");
        follow("h1>", digits);
        follow("j1@", digits);
    }

    /** Each beginning of a text with every command: a text where a command ends, else unfinished. */
    private static void textsOfEachLength() {
        String text = "w0:11=999;r9:0;t10;m8>4;m0>p;h1>2;j4@200;w9:999=0;t999;j9@0;h9>9;r1:100;m9>0;t55";
        checks.due(32, "a text that fills the buffer", text.length(), 80);
        for (int length = 0; length <= 80; length++) {
            String start = text.substring(0, length);
            boolean isText = start.matches(
                "(?:(?:w.:\\d+=\\d+|r.:\\d+|t\\d+|m.>.|h.>.|j.@\\d+)(?:;(?!$)|$))+");
            checks.due(34, "errorPosition of " + start, typed(start).errorPosition(), isText ? -6 : length);
            if (!isText) {
                checks.due(35, "execute of " + start, typed(start).execute(), -5);
            }
            ReplicaSessions x = typed(start.isEmpty() ? "~" : start.substring(0, length - 1) + "~");
            checks.due(34, "an error behind " + (length - 1), x.errorPosition(), Math.max(0, length - 1));
        }
    }

    /** "the index of the first character that is an error; if there is none ..., the number of characters" */
    private static void endsOfTexts() {
        String most = "t1;".repeat(26);
        checks.due(34, "80 characters, a text", typed(most + "t1").errorPosition(), -6);
        checks.due(34, "80 characters, unfinished", typed(most + "m1").errorPosition(), 80);
        checks.due(34, "80 characters, the last one is an error", typed(most + "tt").errorPosition(), 79);
        checks.due(34, "80 characters, the last two are errors", typed(most + "11").errorPosition(), 78);
        checks.due(34, "80 characters, the first is an error", typed("x" + most + "t").errorPosition(), 0);
        String separated = "t10;" + "t1;".repeat(24) + "t10;";
        checks.due(34, "80 characters, a separator at the end", typed(separated).errorPosition(), 80);
        checks.due(34, "the first error counts, not the last", typed("t1x;t1y").errorPosition(), 2);
        checks.due(34, "one character, unfinished", typed("w").errorPosition(), 1);
        checks.due(34, "one character, an error", typed(";").errorPosition(), 0);
        checks.due(34, "a separator at the end", typed("t1;").errorPosition(), 3);
        checks.due(34, "two separators", typed("t1;;").errorPosition(), 3);
    }

    /** "BAD_TEXT if the buffer is not a text (then it stays)" */
    private static void bufferThatIsNoText() {
        for (String text : new String[] {"", "t", "t1;", "t1;x", "x", "t1t1", "t01", "m0>9", "t1;".repeat(26) + "t;"}) {
            ReplicaSessions x = typed(text);
            x.addReplica(1, -6);
            checks.due(35, "execute of " + text, x.execute(), -5);
            checks.due(35, "once more " + text, x.execute(), -5);
            checks.due(35, "it records no state", x.undo(), 0);
            checks.due(33, "it stays", x.clearText(), text.length());
        }
    }

    private static void executed(String text, int due) {
        ReplicaSessions x = Stores.full();
        x.undo();
        Checks.type(x, text);
        checks.due(35, "execute of " + text, x.execute(), due);
        checks.due(33, "the buffer is empty after " + text, x.clearText(), 0);
        checks.due(35, "one state for " + text, x.undo(), 4);
    }

    /** The grammar allows more than the methods do; what a method refuses is not executed. */
    private static void commandsAtTheirEdges() {
        executed("t0", 0);
        executed("t1", 1);
        executed("t99", 1);
        executed("t100", 0);
        executed("t999", 0);
        executed("r0:0", 1);
        executed("r7:11", 1);
        executed("r8:0", 0);
        executed("r9:0", 0);
        executed("r7:12", 0);
        executed("r7:999", 0);
        executed("m7>p", 1);
        executed("m7>0", 1);
        executed("m7>4", 1);
        executed("m8>4", 0);
        executed("h0>7", 1);
        executed("h7>0", 1);
        executed("h7>7", 0);
        executed("h8>8", 0);
        executed("h0>8", 0);
        executed("h9>0", 0);
        executed("j4@0", 1);
        executed("j4@1", 0);
        executed("t1;j4@4", 2);
        executed("t1;j4@5", 1);
        executed("t1;j3@3;j2@2;j1@1;j0@0", 5);
        executed("j5@0", 0);
        executed("j9@0", 0);
        executed("w0:0=0", 0);
        ReplicaSessions x = new ReplicaSessions();
        for (int session = 0; session < 8; session++) {
            x.open(9, 0, 0);
        }
        Checks.type(x, "w7:11=999;w0:0=0;w7:12=0;w1:1=1");
        checks.due(35, "up to a key beyond the last", x.execute(), 2);
        checks.due(35, "the last key", x.value(9, 11), 999);
        checks.due(35, "the first key", x.value(9, 0), 0);
        checks.due(35, "nothing behind the refused one", x.value(9, 1), -6);
        Checks.type(x, "w8:0=0");
        checks.due(35, "a session beyond the last", x.execute(), 0);
        Checks.writeMany(x, 197);
        Checks.type(x, "w6:6=6;w6:6=7;t1");
        checks.due(35, "up to a write beyond the last", x.execute(), 1);
        checks.due(35, "the last write", x.logged(200, 1), 6);
    }

    /** "up to the first one whose method would return an error code" */
    private static void refusedFirstMiddleAndLast() {
        for (String refused : new String[] {"w0:12=0", "r0:12", "t0", "m0>4", "h0>0", "j0@9"}) {
            for (int ahead = 0; ahead <= 2; ahead++) {
                for (int behind = 0; behind <= 2; behind++) {
                    ReplicaSessions x = new ReplicaSessions();
                    x.addReplica(1, -6);
                    x.open(9, 0, 0);
                    Checks.type(x, "w0:1=1;".repeat(ahead) + refused + ";w0:1=2".repeat(behind));
                    checks.due(35, refused + " behind " + ahead, x.execute(), ahead);
                    checks.due(10, "the writes ahead of " + refused, x.length(), ahead);
                    checks.due(33, "the buffer is empty", x.clearText(), 0);
                    checks.due(36, "one state", x.undo(), 2);
                    checks.due(10, "none of them", x.length(), 0);
                }
            }
        }
    }

    /** "NONE is not an error code" */
    private static void noneStopsNothing() {
        ReplicaSessions x = new ReplicaSessions();
        x.open(9, 0, 0);
        Checks.type(x, "r0:0;r0:11;w0:0=5;r0:0");
        checks.due(35, "reads that answer none", x.execute(), 4);
        checks.due(23, "all are counted", x.session(0, 6), 3);
        checks.due(27, "the last one", x.latest(1), 1);
        x.read(0, 5);
        checks.due(36, "a read that answers none is undoable", x.undo(), 2);
        checks.due(23, "it is undone", x.session(0, 6), 3);
    }

    /** "The commands do not record states; the call records one state, also if no command is executed." */
    private static void oneStateForAll() {
        ReplicaSessions x = new ReplicaSessions();
        x.open(9, 0, 0);
        Checks.type(x, "w0:0=1;w0:0=2;w0:0=3;w0:0=4;w0:0=5;w0:0=6;w0:0=7");
        checks.due(35, "seven commands", x.execute(), 7);
        checks.due(36, "two states were recorded", x.undo(), 1);
        checks.due(36, "all seven are undone", x.length(), 0);
        checks.due(33, "the buffer does not come back", x.clearText(), 0);
        for (int i = 0; i < 6; i++) {
            Checks.type(x, "t0");
            checks.due(35, "no command", x.execute(), 0);
        }
        for (int left = 4; left >= 0; left--) {
            checks.due(36, "five of six are kept", x.undo(), left);
            checks.due(36, "the open was discarded", x.sessions(), 1);
        }
        checks.due(36, "no more", x.undo(), -3);
    }

    private static void mostCommands() {
        ReplicaSessions x = new ReplicaSessions();
        x.addReplica(1, -6);
        x.open(9, 0, 0);
        Checks.writeMany(x, 50);
        Checks.type(x, "t1;".repeat(26) + "t1");
        checks.due(35, "27 commands", x.execute(), 27);
        checks.due(35, "27 ticks", x.position(0), 27);
        checks.due(36, "one state", x.undo(), 4);
        checks.due(36, "all ticks are undone", x.position(0), 0);
        Checks.type(x, "t1;".repeat(26) + "t0");
        checks.due(35, "all but the last", x.execute(), 26);
        checks.due(35, "26 ticks", x.position(0), 26);
        Checks.type(x, "t0;" + "t1;".repeat(25) + "t1");
        checks.due(35, "not even the first", x.execute(), 0);
        checks.due(35, "no tick", x.position(0), 26);
    }

    /** "At most 5 states are kept; when a sixth one is recorded, the oldest one is discarded." */
    private static void fiveStates() {
        for (int calls = 0; calls <= 7; calls++) {
            ReplicaSessions x = new ReplicaSessions();
            for (int i = 0; i < calls; i++) {
                x.open(9, i, i);
            }
            int kept = Math.min(calls, 5);
            for (int left = kept - 1; left >= 0; left--) {
                checks.due(36, "undo after " + calls, x.undo(), left);
                checks.due(36, "the sessions then", x.sessions(), (1 << calls - kept + left) - 1);
            }
            checks.due(36, "no more after " + calls, x.undo(), -3);
            checks.due(36, "it changes nothing", x.sessions(), (1 << calls - kept) - 1);
        }
    }

    /** So that the place of the oldest state goes round, from each place that it can have. */
    private static void manyRounds() {
        ReplicaSessions x = new ReplicaSessions();
        x.open(9, 0, 0);
        int length = 0;
        for (int round = 0; round < 14; round++) {
            for (int i = 0; i < 5 + round % 3; i++) {
                x.write(0, round % 12, i);
                length++;
            }
            for (int left = 4; left >= round % 5; left--) {
                checks.due(36, "undo of round " + round, x.undo(), left);
                length--;
                checks.due(36, "the length in round " + round, x.length(), length);
            }
            // What is still recorded then is discarded in the next round, which records five or more.
        }
        for (int left = 0; left < 6; left++) {
            x.write(0, 0, 0);
        }
        x.undo();
        x.write(0, 1, 1);
        checks.due(36, "a new state in place of the undone one", x.undo(), 4);
        checks.due(36, "and the one ahead of it", x.undo(), 3);
    }

    /** "if they return no error code (also if the call makes no difference)" */
    private static void noDifferenceAndErrors() {
        ReplicaSessions x = new ReplicaSessions();
        x.addReplica(0, -6);
        x.open(9, 0, 0);
        x.open(9, 0, 0);
        x.undo();
        x.undo();
        checks.due(36, "undo records nothing", x.undo(), 0);
        x.addReplica(0, -6);
        x.setRate(0, 0);
        x.stop(0, false);
        x.jumpBack(0, 0);
        x.tick(1);
        for (int left = 4; left >= 1; left--) {
            checks.due(36, "calls without a difference", x.undo(), left);
            checks.due(36, "the replica is there", x.replicas(), 1);
        }
        x.addReplica(0, 5);
        x.addReplica(10, -6);
        x.tick(0);
        x.tick(100);
        x.drop(1);
        checks.due(36, "calls with errors", x.undo(), 0);
        checks.due(36, "the replica is gone", x.replicas(), 0);
        checks.due(36, "none is left", x.undo(), -3);
    }

    /** "The state is everything except the buffer, the saved state of save() and the recorded states." */
    private static void whatUndoLeaves() {
        ReplicaSessions x = new ReplicaSessions();
        x.open(9, 0, 0);
        x.append('t');
        x.write(0, 0, 1);
        x.append('1');
        x.save();
        x.write(0, 0, 2);
        x.append(';');
        checks.due(36, "undo", x.undo(), 2);
        checks.due(36, "undo", x.undo(), 1);
        checks.due(36, "undo", x.undo(), 0);
        checks.due(36, "no session", x.sessions(), 0);
        checks.due(34, "the buffer stays", x.errorPosition(), 3);
        checks.due(33, "all of it", x.clearText(), 3);
        checks.due(38, "the saved state stays", x.restore(), 1);
        checks.due(38, "its session", x.sessions(), 1);
        checks.due(36, "the restore is the only state", x.undo(), 0);
        checks.due(36, "no session again", x.sessions(), 0);
    }

    /** "Saves the state and overwrites the state that was saved before." */
    private static void savedAtTheEdges() {
        ReplicaSessions x = new ReplicaSessions();
        checks.due(38, "nothing is saved", x.restore(), -3);
        checks.due(37, "an empty log", x.save(), 0);
        checks.due(38, "an empty state is one", x.restore(), 0);
        x.open(9, 0, 0);
        Checks.writeMany(x, 200);
        checks.due(37, "a full log", x.save(), 200);
        checks.due(37, "once more", x.save(), 200);
        x.undo();
        checks.due(10, "one write less", x.length(), 199);
        checks.due(38, "the full log", x.restore(), 200);
        checks.due(38, "its last write", x.logged(200, 1), 199);
        checks.due(24, "it is full", x.write(0, 0, 0), -4);
        x.undo();
        checks.due(10, "one write less again", x.length(), 199);
        checks.due(37, "save that", x.save(), 199);
        x.write(0, 0, 500);
        checks.due(38, "the later one counts", x.restore(), 199);
        checks.due(37, "save records no state", x.undo(), 4);
        checks.due(38, "the write is back", x.logged(200, 1), 500);
    }

    /** "Makes the saved state current; it remains saved." */
    private static void restoredAgain() {
        ReplicaSessions x = Stores.usual();
        List<Integer> saved = savedView();
        for (int i = 0; i < 3; i++) {
            checks.due(38, "restore", x.restore(), 3);
            x.write(0, i, 700 + i);
            x.drop(0);
            x.close(1);
            x.tick(99);
            x.readAt(0, 0, 9);
        }
        x.restore();
        x.clearText();
        checks.same(38, "what was saved", Views.overview(x), saved);
        checks.due(36, "five states are recorded", x.undo(), 4);
        checks.due(36, "the drop is there again", x.replicas(), 6);
        checks.due(36, "the close is there again", x.sessions(), 13);
    }

    /** The store of Stores.usual() at its save. */
    private static List<Integer> savedView() {
        ReplicaSessions x = Stores.usual();
        x.restore();
        x.clearText();
        return Views.overview(x);
    }
}
