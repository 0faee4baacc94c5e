import java.util.ArrayList;
import java.util.List;

/**
 * Calls that a volume refuses: each throws what is due, and changes nothing. The latter is asked
 * of two volumes that have had the same calls, but for the refused ones: all that can be asked of
 * them has the same answers, at once and behind some more calls that change something. An object
 * answers only so many calls, so the questions go to many pairs of such volumes.
 */
final class Refusals {
    private final String title;
    private final List<Run.Call> state;
    private final List<Questionnaire> questionnaires = new ArrayList<>();

    /** What to ask behind some more calls; the answers are those of a volume without refused ones. */
    private record Questionnaire(List<Run.Call> more, List<Run.Call> questions) {
    }

    /** The volume that is meant is the one behind these calls, given as Run takes them. */
    Refusals(String title, String state) {
        Run.of(title, state);
        this.title = title;
        this.state = Run.calls(state);
        for (String more : moreCalls(volumeBehind(List.of()))) {
            questionnaires.add(questionnaire(Run.calls(more)));
        }
    }

    static void of(String title, String state, String refused) {
        Refusals refusals = new Refusals(title, state);
        for (Run.Call call : Run.calls(refused)) {
            refusals.check(List.of(call));
        }
    }

    void check(List<Run.Call> refused) {
        if (!throwsWhatIsDue(refused)) {
            return;
        }
        for (Questionnaire questionnaire : questionnaires) {
            if (!staysTheSame(refused, questionnaire)) {
                return;
            }
        }
    }

    /** How many refused calls a volume can take, and still be asked much. */
    int roomForRefused() {
        return (Run.CALLS_OF_AN_OBJECT - state.size()) / 2;
    }

    private boolean throwsWhatIsDue(List<Run.Call> refused) {
        Cowmeadow volume = volumeBehind(List.of());
        boolean right = true;
        for (Run.Call call : refused) {
            String got = Run.ask(volume, call.name(), call.arguments());
            if (!call.due().startsWith("throws.") || !got.equals(call.due())) {
                Run.fail(title + ", " + call + " answered " + got + ", due is " + call.due());
                right = false;
            }
        }
        return right;
    }

    private boolean staysTheSame(List<Run.Call> refused, Questionnaire asked) {
        List<Run.Call> questions = asked.questions();
        int room = Run.CALLS_OF_AN_OBJECT - state.size() - refused.size() - asked.more().size();
        for (int from = 0; from < questions.size(); from += room) {
            List<Run.Call> part = new ArrayList<>(asked.more());
            part.addAll(questions.subList(from, Math.min(from + room, questions.size())));
            Cowmeadow volume = volumeBehind(refused);
            for (Run.Call question : part) {
                String got = Run.ask(volume, question.name(), question.arguments());
                if (!got.equals(question.due())) {
                    Run.fail(title + ", behind the refused " + refused + " and " + asked.more()
                        + ", " + question + " answered " + got + " instead of " + question.due());
                    return false;
                }
            }
        }
        return true;
    }

    private Cowmeadow volumeBehind(List<Run.Call> more) {
        Cowmeadow volume = new Cowmeadow();
        for (Run.Call call : state) {
            Run.ask(volume, call.name(), call.arguments());
        }
        for (Run.Call call : more) {
            Run.ask(volume, call.name(), call.arguments());
        }
        return volume;
    }

    // ---- what can be asked

    private static List<String> moreCalls(Cowmeadow volume) {
        List<Integer> datasets = answering(volume, "origin", 0, 6);
        List<Integer> snapshots = answering(volume, "datasetOf", 0, 40);
        int dataset = datasets.get(0);
        int lastDataset = datasets.get(datasets.size() - 1);
        List<String> calls = new ArrayList<>(List.of("", "commit() =", "crash() ="));
        calls.add("write(" + dataset + ", 5, 9, 77) =");
        calls.add("snapshot(" + dataset + ") =");
        calls.add("promote(" + lastDataset + ") =");
        // Destroying makes room, so that it is seen which numbers come next.
        calls.add("destroy(" + lastDataset + ") =");
        if (!snapshots.isEmpty()) {
            int last = snapshots.get(snapshots.size() - 1);
            calls.add("makeClone(" + snapshots.get(0) + ") =");
            calls.add("destroySnapshot(" + last + ") =\nsnapshot(" + dataset + ") =\ncrash() =");
            calls.add("crash() =\ndestroySnapshot(" + last + ") =\nsnapshot(" + dataset + ") =");
            calls.add("destroy(" + lastDataset + ") =\nmakeClone(" + last + ") =\ncommit() =");
        }
        return calls;
    }

    private Questionnaire questionnaire(List<Run.Call> more) {
        List<Run.Call> questions = Run.calls(questions(volumeBehind(more)));
        int room = Run.CALLS_OF_AN_OBJECT - state.size() - more.size();
        List<Run.Call> answered = new ArrayList<>();
        for (int from = 0; from < questions.size(); from += room) {
            int to = Math.min(from + room, questions.size());
            answered.addAll(answered(volumeBehind(more), questions.subList(from, to)));
        }
        return new Questionnaire(answered(volumeBehind(List.of()), more), answered);
    }

    private static List<Run.Call> answered(Cowmeadow volume, List<Run.Call> calls) {
        List<Run.Call> answered = new ArrayList<>();
        for (Run.Call call : calls) {
            String answer = Run.ask(volume, call.name(), call.arguments());
            answered.add(new Run.Call(call.name(), call.arguments(), answer));
        }
        return answered;
    }

    private static String questions(Cowmeadow volume) {
        StringBuilder lines = new StringBuilder("""
            transaction() =
            datasets() =
            free() =
            pending() =
            condensed() =
            freeIn(0..3) =
            logEntries(0..3) =
            replay(0..3) =
            runAt(0..3, 0..9) =
            allocates(0..3, 0..9) =
            birth(0..127) =
            references(0..127) =
            origin(0..6) =
            snapshots(0..6) =
            snapshotAt(0..5, 0..12) =
            """);
        for (int dataset : answering(volume, "origin", 0, 6)) {
            lines.append("""
                read(?, 0..7, 0..15) =
                blockAt(?, 0..7, 0..15) =
                length(?, 0..7) =
                referenced(?) =
                unique(?) =
                newer(?, 0..4) =
                """.replace("?", String.valueOf(dataset)));
        }
        for (int snapshot : answering(volume, "datasetOf", 0, 40)) {
            lines.append("""
                readSnapshot(?, 0..7, 0..15) =
                blockInSnapshot(?, 0..7, 0..15) =
                transactionOf(?) =
                datasetOf(?) =
                uniqueOfSnapshot(?) =
                """.replace("?", String.valueOf(snapshot)));
        }
        return lines.toString();
    }

    private static List<Integer> answering(Cowmeadow volume, String name, int from, int to) {
        List<Integer> found = new ArrayList<>();
        for (int number = from; number < to; number++) {
            if (!Run.ask(volume, name, new int[] {number}).startsWith("throws.")) {
                found.add(number);
            }
        }
        return found;
    }
}
