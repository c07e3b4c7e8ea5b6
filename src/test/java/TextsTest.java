/** Promises 32 to 35. */
public final class TextsTest {
    private static final Checks checks = new Checks();

    public static void main(String[] args) {
        appending();
        wholeTexts();
        unfinishedTexts();
        errors();
        longTexts();
        execution();
        executionUpToAnError();
        eachCommand();
        executionIsOneState();
        checks.finish();
    }

    private static void appending() {
        ReplicaSessions x = new ReplicaSessions();
        checks.due(33, "an empty buffer", x.clearText(), 0);
        checks.due(32, "the first code", x.append(33), 1);
        checks.due(32, "the last code", x.append(126), 2);
        for (int code : new int[] {32, 127, 0, -1, Integer.MAX_VALUE, Integer.MIN_VALUE}) {
            checks.due(32, "code " + code, x.append(code), -2);
        }
        for (int i = 3; i <= 80; i++) {
            checks.due(32, "there is room", x.append('t'), i);
        }
        checks.due(32, "one more", x.append('t'), -4);
        checks.due(32, "the code is looked at before the room", x.append(32), -2);
        checks.due(33, "a full buffer", x.clearText(), 80);
        checks.due(33, "it is empty then", x.clearText(), 0);
        checks.due(32, "append", x.append('t'), 1);
        checks.due(32, "append records no state", x.undo(), -3);
    }

    private static void position(String text, int due) {
        ReplicaSessions x = new ReplicaSessions();
        Checks.type(x, text);
        checks.due(34, "errorPosition of " + text, x.errorPosition(), due);
        checks.due(34, "the buffer stays, " + text, x.clearText(), text.length());
    }

    private static void wholeTexts() {
        String[] texts = {
            "w0:0=0", "w9:999=999", "w1:10=100", "r0:0", "r9:999", "t0", "t7", "t10", "t999",
            "m0>0", "m9>4", "m3>p", "h0>9", "h9>0", "j0@0", "j9@200", "j1@999",
            "t1;t2", "w0:0=0;r0:0;t1;m0>p;h0>1;j0@0", "t0;t0;t0",
        };
        for (String text : texts) {
            position(text, -6);
        }
    }

    private static void unfinishedTexts() {
        String[] texts = {
            "", "w", "w0", "w0:", "w0:1", "w0:12", "w0:1=", "r", "r1", "r1:", "t", "m", "m1", "m1>",
            "h", "h1", "h1>", "j", "j1", "j1@", "t1;", "t1;w", "t1;r0:",
        };
        for (String text : texts) {
            position(text, text.length());
        }
    }

    private static void errors() {
        position("x", 0);
        position("W0:0=0", 0);
        position(";", 0);
        position("0", 0);
        position("~", 0);
        position("t1;;t1", 3);
        position("t1;1", 3);
        position("t00", 2);
        position("t01", 2);
        position("t1000", 4);
        position("t-1", 1);
        position("t;", 1);
        position("tt", 1);
        position("t1t1", 2);
        position("t1,", 2);
        position("w:0=0", 1);
        position("w10:0=0", 2);
        position("w0=0", 2);
        position("w0:=0", 3);
        position("w0:00=0", 4);
        position("w0:1000=0", 6);
        position("w0:0:0", 4);
        position("w0:0=00", 6);
        position("w0:0=1234", 8);
        position("w0:0;", 4);
        position("r0:0=0", 4);
        position("ra:0", 1);
        position("r0>0", 2);
        position("m0>5", 3);
        position("m0>9", 3);
        position("m0>P", 3);
        position("m0>pp", 4);
        position("m0>00", 4);
        position("m0:0", 2);
        position("h0>10", 4);
        position("h0>p", 3);
        position("h0:0", 2);
        position("j0>0", 2);
        position("j0@01", 4);
        position("jj", 1);
        position("r0:3/", 4);
        position("r0:3:", 4);
        position("r/:3", 1);
        position("r::3", 1);
    }

    private static void longTexts() {
        String most = "t1" + ";t1".repeat(26);
        position(most, -6);
        position("t1" + ";t1".repeat(25) + ";t;", 79);
        position("t10" + ";t1".repeat(25) + ";t", 80);
        position("t1" + ";t1".repeat(25) + ";m1", 80);
        ReplicaSessions x = new ReplicaSessions();
        Checks.type(x, most);
        checks.due(35, "the most commands", x.execute(), 27);
    }

    private static void execution() {
        ReplicaSessions x = new ReplicaSessions();
        checks.due(35, "an empty buffer", x.execute(), -5);
        Checks.type(x, "t1;");
        checks.due(35, "an unfinished text", x.execute(), -5);
        checks.due(35, "it stays", x.clearText(), 3);
        Checks.type(x, "t1x");
        checks.due(35, "an error", x.execute(), -5);
        checks.due(35, "it stays", x.clearText(), 3);
        checks.due(35, "no state is recorded", x.undo(), -3);
        x.open(9, 0, 0);
        Checks.type(x, "w0:11=999;w0:1=10");
        checks.due(35, "two commands", x.execute(), 2);
        checks.due(35, "the buffer is empty", x.clearText(), 0);
        checks.due(35, "the first write", x.value(9, 11), 999);
        checks.due(35, "the second write", x.value(9, 1), 10);
        checks.due(35, "the empty buffer is no text", x.execute(), -5);
    }

    private static void executionUpToAnError() {
        ReplicaSessions x = new ReplicaSessions();
        x.open(9, 0, 0);
        Checks.type(x, "w0:1=1;w0:12=1;w0:2=1");
        checks.due(35, "up to a wrong key", x.execute(), 1);
        checks.due(35, "one write", x.length(), 1);
        checks.due(35, "the buffer is empty", x.clearText(), 0);
        Checks.type(x, "t0");
        checks.due(35, "no command", x.execute(), 0);
        Checks.type(x, "t99;t100;t1");
        checks.due(35, "up to too many ticks", x.execute(), 1);
        Checks.type(x, "r0:5;r0:1;r1:1");
        checks.due(35, "NONE is no error code", x.execute(), 2);
        x.addReplica(0, -6);
        x.change(0, 1, 0);
        Checks.type(x, "m0>0;r0:1;t1");
        checks.due(35, "up to a read that is not possible", x.execute(), 1);
        Checks.type(x, "h0>0");
        checks.due(35, "a hand to itself", x.execute(), 0);
        Checks.type(x, "m0>1");
        checks.due(35, "no such place", x.execute(), 0);
        Checks.type(x, "j0@1");
        checks.due(35, "a jump forth", x.execute(), 0);
        Checks.type(x, "j5@0");
        checks.due(35, "no such replica", x.execute(), 0);
        Checks.type(x, "w8:0=0");
        checks.due(35, "no such session", x.execute(), 0);
        x.change(0, 0, 0);
        Checks.writeMany(x, 198);
        Checks.type(x, "w0:0=0;w0:0=1");
        checks.due(35, "up to a full log", x.execute(), 1);
        checks.due(35, "the log is full", x.length(), 200);
    }

    private static void eachCommand() {
        ReplicaSessions x = new ReplicaSessions();
        x.addReplica(1, -6);
        x.addReplica(9, -6);
        x.open(0, 1, 20);
        x.open(9, 2, 0);
        Checks.type(x, "w0:7=123;w0:7=124;t1;r0:7;h0>1;m0>1;m1>p;j0@1");
        checks.due(35, "eight commands", x.execute(), 8);
        checks.due(35, "the write", x.logged(1, 1), 123);
        checks.due(35, "the latest read", x.latest(1), 2);
        checks.due(35, "its ticks", x.latest(2), 1);
        checks.due(35, "it is counted", x.session(0, 6), 1);
        checks.due(35, "the handed mark", x.session(1, 4), 2);
        checks.due(35, "the home", x.session(0, 0), 1);
        checks.due(35, "the home", x.session(1, 0), 9);
        checks.due(35, "the jump", x.position(0), 1);
        checks.due(35, "the other replica", x.position(1), 2);
        Checks.type(x, "m1>0");
        x.execute();
        checks.due(35, "the home", x.session(1, 0), 0);
    }

    private static void executionIsOneState() {
        ReplicaSessions x = new ReplicaSessions();
        x.open(9, 0, 0);
        Checks.type(x, "w0:1=1;w0:1=2;w0:1=3");
        x.execute();
        Checks.type(x, "t0");
        x.execute();
        checks.due(35, "undo of no command", x.undo(), 2);
        checks.due(35, "the length stays", x.length(), 3);
        Checks.type(x, "t5");
        checks.due(35, "undo of three commands", x.undo(), 1);
        checks.due(35, "the length then", x.length(), 0);
        checks.due(35, "the buffer stays", x.clearText(), 2);
    }
}
