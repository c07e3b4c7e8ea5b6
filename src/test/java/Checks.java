import java.util.List;

/** Counts the answers of one test, and prints those that are not due. */
final class Checks {
    private int right = 0;
    private int wrong = 0;

    void due(int promise, String call, int got, int want) {
        if (got == want) {
            right++;
        } else {
            wrong++;
            System.out.println("promise " + promise + ": " + call + " answered " + got + ", due is " + want);
        }
    }

    void same(int promise, String what, List<Integer> got, List<Integer> want) {
        holds("promise " + promise + ": " + what + " answered " + got + ", due is " + want, got.equals(want));
    }

    void holds(String what, boolean isSo) {
        if (isSo) {
            right++;
        } else {
            wrong++;
            System.out.println("does not hold: " + what);
        }
    }

    void finish() {
        System.out.println(right + " answers are as due, " + wrong + " are not");
        if (wrong != 0 || right == 0) {
            System.exit(1);
        }
    }

    /** Puts the text into the buffer in place of what is there. */
    static void type(ReplicaSessions store, String text) {
        store.clearText();
        for (int i = 0; i < text.length(); i++) {
            store.append(text.charAt(i));
        }
    }

    /** Appends the number of writes of key 0 by session 0. */
    static void writeMany(ReplicaSessions store, int writes) {
        for (int i = 0; i < writes; i++) {
            store.write(0, 0, i);
        }
    }
}
