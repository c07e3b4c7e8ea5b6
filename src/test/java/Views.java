import java.util.ArrayList;
import java.util.List;

/**
 * Ways to look at a store. None makes more than 200 calls, since what an object answers after its
 * 512th call is free; so each is used on an object of its own.
 */
final class Views {
    /** Makes calls and lists their answers. */
    interface View {
        List<Integer> of(ReplicaSessions x);
    }

    /** A state can be looked at only when it is current; so the recorded and saved ones are made so. */
    private static final List<View> STATES = List.of(
        x -> List.of(), x -> undone(x, 1), x -> undone(x, 2), x -> undone(x, 3), x -> undone(x, 4),
        x -> undone(x, 5), x -> undone(x, 6), x -> List.of(x.restore()), x -> List.of(x.execute()));

    private static final List<View> LOOKS = List.of(
        Views::overview, Views::versions, Views::values, x -> logged(x, 0), x -> logged(x, 1), x -> logged(x, 2),
        Views::predictions, Views::countsOfLaterReads);

    private Views() {
    }

    /** The ways to look at the current state and the buffer. */
    static List<View> looks() {
        return LOOKS;
    }

    /** These ways at the current state, and at what undo(), restore() and execute() make of it. */
    static List<View> all() {
        List<View> views = new ArrayList<>();
        for (View state : STATES) {
            for (View look : LOOKS) {
                views.add(x -> {
                    List<Integer> answers = new ArrayList<>(state.of(x));
                    answers.addAll(look.of(x));
                    return answers;
                });
            }
        }
        return views;
    }

    private static List<Integer> undone(ReplicaSessions x, int times) {
        List<Integer> answers = new ArrayList<>();
        for (int i = 0; i < times; i++) {
            answers.add(x.undo());
        }
        return answers;
    }

    static List<Integer> overview(ReplicaSessions x) {
        List<Integer> answers = new ArrayList<>(List.of(x.replicas(), x.sessions(), x.length(), x.catchUp()));
        for (int part = 0; part < 3; part++) {
            answers.add(x.latest(part));
        }
        for (int place = 0; place < 10; place++) {
            answers.add(x.position(place));
            answers.add(x.answers(place));
        }
        for (int replica = 0; replica < 5; replica++) {
            for (int part = 0; part < 3; part++) {
                answers.add(x.replica(replica, part));
            }
        }
        for (int session = 0; session < 8; session++) {
            for (int part = 0; part < 9; part++) {
                answers.add(x.session(session, part));
            }
        }
        answers.add(x.errorPosition());
        answers.add(x.clearText());
        return answers;
    }

    private static List<Integer> versions(ReplicaSessions x) {
        List<Integer> answers = new ArrayList<>();
        for (int key = 0; key < 12; key++) {
            for (int place : new int[] {0, 1, 2, 3, 4, 9}) {
                answers.add(x.version(place, key));
                answers.add(x.missing(place, key));
            }
        }
        return answers;
    }

    private static List<Integer> values(ReplicaSessions x) {
        List<Integer> answers = new ArrayList<>();
        for (int key = 0; key < 12; key++) {
            for (int place : new int[] {0, 1, 2, 3, 4, 9}) {
                answers.add(x.value(place, key));
            }
        }
        return answers;
    }

    private static List<Integer> logged(ReplicaSessions x, int part) {
        List<Integer> answers = new ArrayList<>();
        for (int number = 1; number <= 200; number++) {
            answers.add(x.logged(number, part));
        }
        return answers;
    }

    private static List<Integer> predictions(ReplicaSessions x) {
        List<Integer> answers = new ArrayList<>();
        for (int session = 0; session < 8; session++) {
            for (int key = 0; key < 12; key++) {
                answers.add(x.bestReplica(session, key));
            }
            for (int place : new int[] {0, 1, 2, 3, 4, 9}) {
                answers.add(x.waitFor(session, 0, place));
                answers.add(x.keysAfter(session, place, 1));
            }
        }
        return answers;
    }

    /** What a session has written and read of each key shows only when it reads again. */
    private static List<Integer> countsOfLaterReads(ReplicaSessions x) {
        List<Integer> answers = new ArrayList<>();
        for (int session = 0; session < 8; session++) {
            answers.add(x.change(session, 0, 0));
            for (int key = 0; key < 12; key++) {
                answers.add(x.readAt(session, key, key % 2));
            }
            for (int part = 6; part < 9; part++) {
                answers.add(x.session(session, part));
            }
        }
        return answers;
    }
}
