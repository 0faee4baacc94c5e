import java.util.Arrays;

/**
 * All promises at once: many runs of 512 calls, always the same ones, answered by the program and
 * by PlainVolume.
 */
public final class MixedRunsTest {
    private static final int RUNS = 600;
    private static final int CALLS = 512;

    private static final String[] CHANGES = {
        "write", "write", "write", "write", "write", "write", "punch", "punch", "reflink", "reflink",
        "commit", "commit", "crash", "snapshot", "snapshot", "destroySnapshot", "rollback",
        "makeClone", "makeClone", "promote", "promote", "destroy"
    };
    private static final String[] QUESTIONS = {
        "read", "blockAt", "length", "transaction", "readSnapshot", "blockInSnapshot",
        "transactionOf", "datasetOf", "snapshots", "snapshotAt", "changed", "datasets", "origin",
        "referenced", "unique", "uniqueOfSnapshot", "newer", "birth", "references", "free",
        "pending", "freeIn", "logEntries", "runAt", "allocates", "replay", "condensed"
    };

    private final long seed;
    private final Cowmeadow volume = new Cowmeadow();
    private final PlainVolume plain = new PlainVolume();
    // What kind of run it is: how far it spreads over the volume, and how often it goes astray.
    private final int files;
    private final int longest;
    private final int astray;
    private final int asked;
    private long state;
    private int calls = 0;
    private int snapshots = 0;
    private boolean right = true;

    private MixedRunsTest(long seed) {
        this.seed = seed;
        state = seed * 7919 + 17;
        files = 1 + below(8);
        longest = 1 + below(16);
        astray = 5 + below(60);
        asked = below(4);
    }

    public static void main(String[] args) {
        for (long seed = 0; seed < RUNS; seed++) {
            new MixedRunsTest(seed).run();
        }
        Run.end();
    }

    private void run() {
        int prelude = seed % 3 == 0 ? 128 : 0;
        for (int i = 0; i < prelude && right; i++) {
            ask("write", new int[] {0, i / 16, i % 16, i});
        }
        while (calls < CALLS && right) {
            boolean question = below(4) < asked;
            String[] names = question ? QUESTIONS : CHANGES;
            String name = names[below(names.length)];
            ask(name, arguments(name));
        }
    }

    private void ask(String name, int[] arguments) {
        calls++;
        String got = Run.ask(volume, name, arguments);
        String due = plain.ask(name, arguments);
        if (name.equals("snapshot") && !due.startsWith("throws.")) {
            snapshots = Integer.parseInt(due) + 1;
        }
        if (!got.equals(due)) {
            right = false;
            Run.fail("run " + seed + ", call " + calls + ", " + name + Arrays.toString(arguments)
                + " answered " + got + ", due is " + due);
        }
    }

    private int[] arguments(String name) {
        return switch (name) {
            case "write" -> new int[] {dataset(), file(), index(), below(1000) - 500};
            case "read", "blockAt" -> new int[] {dataset(), file(), index()};
            case "length" -> new int[] {dataset(), file()};
            case "punch" -> new int[] {dataset(), file(), index(), count()};
            case "reflink" -> new int[] {dataset(), file(), index(), file(), index(), count()};
            case "readSnapshot", "blockInSnapshot" -> new int[] {snapshot(), file(), index()};
            case "snapshotAt" -> new int[] {dataset(), pick(6)};
            case "rollback" -> new int[] {dataset(), snapshot()};
            case "changed" -> new int[] {snapshot(), dataset()};
            case "transactionOf", "datasetOf", "destroySnapshot", "makeClone", "uniqueOfSnapshot" ->
                new int[] {snapshot()};
            case "snapshot", "snapshots", "origin", "promote", "destroy", "referenced", "unique" ->
                new int[] {dataset()};
            case "newer" -> new int[] {dataset(), pick(60)};
            case "birth", "references" -> new int[] {pick(128)};
            case "freeIn", "logEntries", "replay" -> new int[] {pick(4)};
            case "runAt", "allocates" -> new int[] {pick(4), pick(12)};
            default -> new int[0];
        };
    }

    private int dataset() {
        return pick(below(3) == 0 ? 6 : 2);
    }

    private int snapshot() {
        int back = below(8);
        return below(3) == 0 ? pick(snapshots + 1) : Math.max(snapshots - 1 - back, -1);
    }

    private int file() {
        return pick(files);
    }

    private int index() {
        return pick(16);
    }

    private int count() {
        return 1 + pick(longest);
    }

    /** A number below a bound; now and then one that is out of bounds. */
    private int pick(int bound) {
        if (below(astray) != 0) {
            return below(bound);
        }
        return switch (below(6)) {
            case 0 -> -1;
            case 1 -> bound;
            case 2 -> Integer.MAX_VALUE;
            case 3 -> Integer.MIN_VALUE;
            case 4 -> 16;
            default -> 8;
        };
    }

    private int below(int bound) {
        state = state * 6364136223846793005L + 1442695040888963407L;
        return (int) Math.floorMod(state >>> 33, (long) bound);
    }
}
