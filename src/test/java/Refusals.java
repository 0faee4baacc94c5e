import java.util.ArrayList;
import java.util.List;

/**
 * Calls that a volume refuses: each throws what is due, and changes nothing. The latter is asked
 * of two volumes that have had the same calls, but for the refused ones: all that can be asked of
 * them has the same answers, at once and behind one more call of each kind that changes something.
 * An object answers only so many calls, so the questions go to many pairs of such volumes.
 */
final class Refusals {
    private final String title;
    private final List<Run.Call> state;
    private final List<List<Run.Call>> questionnaires = new ArrayList<>();

    /** The volume that is meant is the one behind these calls, given as Run takes them. */
    Refusals(String title, String state) {
        Run.of(title, state);
        this.title = title;
        this.state = Run.calls(state);
        for (String last : oneMoreCall(volumeBehind(List.of()))) {
            questionnaires.add(questionnaire(last));
        }
    }

    static void of(String title, String state, String refused) {
        Refusals refusals = new Refusals(title, state);
        for (Run.Call call : Run.calls(refused)) {
            refusals.check(List.of(call));
        }
    }

    void check(List<Run.Call> refused) {
        if (!throwsWhatIsDue(refused)) {
            return;
        }
        for (List<Run.Call> questions : questionnaires) {
            if (!staysTheSame(refused, questions)) {
                return;
            }
        }
    }

    /** How many refused calls a volume can take, and still be asked much. */
    int roomForRefused() {
        return (Run.CALLS_OF_AN_OBJECT - state.size()) / 2;
    }

    private boolean throwsWhatIsDue(List<Run.Call> refused) {
        Cowmeadow volume = volumeBehind(List.of());
        boolean right = true;
        for (Run.Call call : refused) {
            String got = Run.ask(volume, call.name(), call.arguments());
            if (!call.due().startsWith("throws.") || !got.equals(call.due())) {
                Run.fail(title + ", " + call + " answered " + got + ", due is " + call.due());
                right = false;
            }
        }
        return right;
    }

    private boolean staysTheSame(List<Run.Call> refused, List<Run.Call> questions) {
        int room = Run.CALLS_OF_AN_OBJECT - state.size() - refused.size();
        Run.Call last = questions.get(0);
        for (int from = 1; from < questions.size(); from += room - 1) {
            Cowmeadow volume = volumeBehind(refused);
            int to = Math.min(from + room - 1, questions.size());
            List<Run.Call> part = new ArrayList<>(questions.subList(from, to));
            part.add(0, last);
            for (Run.Call question : part) {
                String got = Run.ask(volume, question.name(), question.arguments());
                if (!got.equals(question.due())) {
                    Run.fail(title + ", behind the refused " + refused + " and " + last + ", "
                        + question + " answered " + got + " instead of " + question.due());
                    return false;
                }
            }
        }
        return true;
    }

    private Cowmeadow volumeBehind(List<Run.Call> more) {
        Cowmeadow volume = new Cowmeadow();
        for (Run.Call call : state) {
            Run.ask(volume, call.name(), call.arguments());
        }
        for (Run.Call call : more) {
            Run.ask(volume, call.name(), call.arguments());
        }
        return volume;
    }

    // ---- what can be asked

    private static List<String> oneMoreCall(Cowmeadow volume) {
        List<String> calls = new ArrayList<>(List.of("transaction()", "commit()", "crash()"));
        List<Integer> datasets = answering(volume, "origin", 0, 6);
        calls.add("write(" + datasets.get(0) + ", 5, 9, 77)");
        calls.add("snapshot(" + datasets.get(0) + ")");
        calls.add("promote(" + datasets.get(datasets.size() - 1) + ")");
        List<Integer> snapshots = answering(volume, "datasetOf", 0, 40);
        if (!snapshots.isEmpty()) {
            calls.add("makeClone(" + snapshots.get(0) + ")");
            calls.add("destroySnapshot(" + snapshots.get(snapshots.size() - 1) + ")");
        }
        return calls;
    }

    /** A call, and all questions behind it, with the answers of a volume without refused calls. */
    private List<Run.Call> questionnaire(String last) {
        Run.Call lastCall = Run.calls(last + " = ").get(0);
        Cowmeadow volume = volumeBehind(List.of());
        List<Run.Call> answered = new ArrayList<>();
        answered.add(answered(volume, lastCall));
        for (Run.Call question : Run.calls(questions(volumeBehind(List.of(lastCall))))) {
            if (answered.size() % (Run.CALLS_OF_AN_OBJECT - state.size() - 1) == 0) {
                volume = volumeBehind(List.of(lastCall));
            }
            answered.add(answered(volume, question));
        }
        return answered;
    }

    private static Run.Call answered(Cowmeadow volume, Run.Call call) {
        String answer = Run.ask(volume, call.name(), call.arguments());
        return new Run.Call(call.name(), call.arguments(), answer);
    }

    private static String questions(Cowmeadow volume) {
        StringBuilder lines = new StringBuilder("""
            transaction() =
            datasets() =
            free() =
            pending() =
            condensed() =
            freeIn(0..3) =
            logEntries(0..3) =
            replay(0..3) =
            runAt(0..3, 0..9) =
            allocates(0..3, 0..9) =
            birth(0..127) =
            references(0..127) =
            origin(0..6) =
            snapshots(0..6) =
            snapshotAt(0..5, 0..12) =
            """);
        for (int dataset : answering(volume, "origin", 0, 6)) {
            lines.append("""
                read(?, 0..7, 0..15) =
                blockAt(?, 0..7, 0..15) =
                length(?, 0..7) =
                referenced(?) =
                unique(?) =
                newer(?, 0..4) =
                """.replace("?", String.valueOf(dataset)));
        }
        for (int snapshot : answering(volume, "datasetOf", 0, 40)) {
            lines.append("""
                readSnapshot(?, 0..7, 0..15) =
                blockInSnapshot(?, 0..7, 0..15) =
                transactionOf(?) =
                datasetOf(?) =
                uniqueOfSnapshot(?) =
                """.replace("?", String.valueOf(snapshot)));
        }
        return lines.toString();
    }

    private static List<Integer> answering(Cowmeadow volume, String name, int from, int to) {
        List<Integer> found = new ArrayList<>();
        for (int number = from; number < to; number++) {
            if (!Run.ask(volume, name, new int[] {number}).startsWith("throws.")) {
                found.add(number);
            }
        }
        return found;
    }
}
