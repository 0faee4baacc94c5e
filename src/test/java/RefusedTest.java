import java.util.ArrayList;
import java.util.List;

/**
 * Every call that the document refuses: the exception that it asks for, the one that comes first
 * where several apply, and that nothing has changed behind it.
 */
public final class RefusedTest {
    private static final String NEW = "";

    /**
     * The datasets 0, 1 and 3 and the snapshots 0, 1, 3 and 4 are there, the dataset 2 and the
     * snapshot 2 no more; the dataset 3 has no snapshots, all of the others are origins but for 4.
     * The open transaction, 6, has new blocks, pending ones, shared ones and a clone.
     */
    private static final String USED = """
        write(0, 0, 0, 11) = 0
        write(0, 0, 1, 12) = 32
        reflink(0, 0, 0, 1, 0, 2) = 2
        snapshot(0) = 0
        write(0, 0, 0, 13) = 64
        snapshot(0) = 1
        snapshot(0) = 2
        makeClone(1) = 1
        write(1, 3, 3, 14) = 96
        snapshot(1) = 3
        makeClone(0) = 2
        destroySnapshot(2) = 0
        snapshot(0) = 4
        makeClone(3) = 3
        destroy(2) = 0
        write(0, 7, 15, 15) = 1
        reflink(0, 7, 15, 7, 0, 1) = 1
        punch(1, 3, 3, 1) = 1
        write(3, 0, 0, 16) = 33
        """;

    private static final String FULL = Run.filled() + """
        reflink(0, 0, 0, 7, 15, 1) = 1
        write(0, 7, 15, 1) = 127
        commit() = 1
        """;

    private static final String FULL_OF_PENDING = Run.filled() + """
        commit() = 1
        punch(0, 0..7, 0, 16) = 16
        """;

    /** The block 0, of the places 0 and 1 of the file 0, was born in the open transaction. */
    private static final String FULL_AND_SHARED = Run.filled() + """
        commit() = 1
        punch(0, 0, 0, 2) = 2
        commit() = 2
        write(0, 0, 0, 5) = 0
        reflink(0, 0, 0, 0, 1, 1) = 1
        write(0, 0, 2, 5) = 32
        """;

    private static final String TWELVE_SNAPSHOTS = """
        write(0, 0, 0, 11) = 0
        snapshot(0) = 0
        makeClone(0) = 1
        snapshot(1) = 1
        snapshot(0) = 2
        snapshot(1) = 3
        destroySnapshot(2) = 0
        snapshot(0) = 4
        snapshot(0) = 5
        snapshot(0) = 6
        snapshot(0) = 7
        snapshot(0) = 8
        snapshot(0) = 9
        snapshot(0) = 10
        snapshot(0) = 11
        snapshot(0) = 12
        write(0, 0, 0, 12) = 32
        """;

    private static final String SIX_DATASETS = """
        write(0, 0, 0, 11) = 0
        snapshot(0) = 0
        snapshot(0) = 1
        makeClone(0) = 1
        makeClone(0) = 2
        makeClone(0) = 3
        makeClone(1) = 4
        destroy(2) = 0
        makeClone(1) = 2
        makeClone(0) = 5
        """;

    public static void main(String[] args) {
        noSuchDataset();
        noSuchFileOrIndex();
        noSuchSnapshot();
        noSuchBlockOrRegion();
        noSuchSnapshotOfADataset();
        noSuchEntry();
        counts();
        indexesComeAheadOfCounts();
        noBlockIsFree();
        blocksThatAreNotAllocated();
        twelveSnapshots();
        sixDatasets();
        origins();
        rollbacks();
        promotions();
        destructions();
        everyMixtureOfEdges();
        Run.end();
    }

    private static void noSuchDataset() {
        String refused = """
            write(?, 0, 0, 5) = throws.IndexOutOfBoundsException
            read(?, 0, 0) = throws.IndexOutOfBoundsException
            blockAt(?, 0, 0) = throws.IndexOutOfBoundsException
            length(?, 0) = throws.IndexOutOfBoundsException
            punch(?, 0, 0, 1) = throws.IndexOutOfBoundsException
            reflink(?, 0, 0, 1, 1, 1) = throws.IndexOutOfBoundsException
            snapshot(?) = throws.IndexOutOfBoundsException
            snapshots(?) = throws.IndexOutOfBoundsException
            snapshotAt(?, 0) = throws.IndexOutOfBoundsException
            rollback(?, 0) = throws.IndexOutOfBoundsException
            changed(0, ?) = throws.IndexOutOfBoundsException
            origin(?) = throws.IndexOutOfBoundsException
            promote(?) = throws.IndexOutOfBoundsException
            destroy(?) = throws.IndexOutOfBoundsException
            referenced(?) = throws.IndexOutOfBoundsException
            unique(?) = throws.IndexOutOfBoundsException
            newer(?, 0) = throws.IndexOutOfBoundsException
            """;
        // 1 is just outside a new volume; 2 is destroyed in the other one, 4 just outside it.
        Refusals.of("no such dataset, in a new volume", NEW, forEach(refused, 1, -1));
        Refusals.of("no such dataset", USED, forEach(refused, -1, 2, 4));
        Refusals.of("no such dataset, far outside", USED,
            forEach(refused, 5, 6, Integer.MAX_VALUE, Integer.MIN_VALUE));
        Refusals.of("no such dataset, as there are at most 6", SIX_DATASETS, forEach(refused, -1, 6));
    }

    private static void noSuchFileOrIndex() {
        String files = """
            write(0, ?, 0, 5) = throws.IndexOutOfBoundsException
            read(0, ?, 0) = throws.IndexOutOfBoundsException
            blockAt(0, ?, 0) = throws.IndexOutOfBoundsException
            length(0, ?) = throws.IndexOutOfBoundsException
            punch(0, ?, 0, 1) = throws.IndexOutOfBoundsException
            reflink(0, ?, 0, 1, 1, 1) = throws.IndexOutOfBoundsException
            reflink(0, 0, 0, ?, 1, 1) = throws.IndexOutOfBoundsException
            readSnapshot(0, ?, 0) = throws.IndexOutOfBoundsException
            blockInSnapshot(0, ?, 0) = throws.IndexOutOfBoundsException
            """;
        String indexes = """
            write(0, FILE, ?, 5) = throws.IndexOutOfBoundsException
            read(0, FILE, ?) = throws.IndexOutOfBoundsException
            blockAt(0, FILE, ?) = throws.IndexOutOfBoundsException
            punch(0, FILE, ?, 1) = throws.IndexOutOfBoundsException
            reflink(0, FILE, ?, 1, 1, 1) = throws.IndexOutOfBoundsException
            reflink(0, 0, 0, FILE, ?, 1) = throws.IndexOutOfBoundsException
            readSnapshot(0, FILE, ?) = throws.IndexOutOfBoundsException
            blockInSnapshot(0, FILE, ?) = throws.IndexOutOfBoundsException
            """;
        // 16 times 2^28 wraps around to 0: that is no file either.
        Refusals.of("no such file", USED,
            forEach(files, -1, 8, Integer.MAX_VALUE, Integer.MIN_VALUE, 1 << 28));
        // The index 16 of a file is not the index 0 of the next one, nor -1 the last one before.
        Refusals.of("no such index of the first file", USED,
            forEach(indexes.replace("FILE", "0"), -1, 16, Integer.MAX_VALUE, Integer.MIN_VALUE));
        Refusals.of("no such index of a file between", USED,
            forEach(indexes.replace("FILE", "3"), -1, 16));
        Refusals.of("no such index of the last file", USED,
            forEach(indexes.replace("FILE", "7"), -1, 16));
    }

    private static void noSuchSnapshot() {
        String refused = """
            readSnapshot(?, 0, 0) = throws.IndexOutOfBoundsException
            blockInSnapshot(?, 0, 0) = throws.IndexOutOfBoundsException
            transactionOf(?) = throws.IndexOutOfBoundsException
            datasetOf(?) = throws.IndexOutOfBoundsException
            destroySnapshot(?) = throws.IndexOutOfBoundsException
            rollback(0, ?) = throws.IndexOutOfBoundsException
            changed(?, 0) = throws.IndexOutOfBoundsException
            makeClone(?) = throws.IndexOutOfBoundsException
            uniqueOfSnapshot(?) = throws.IndexOutOfBoundsException
            """;
        Refusals.of("no such snapshot, in a new volume", NEW, forEach(refused, -1, 0));
        Refusals.of("no such snapshot", USED,
            forEach(refused, -1, 2, 5, Integer.MAX_VALUE, Integer.MIN_VALUE));
        Refusals.of("no such snapshot, among 12", TWELVE_SNAPSHOTS, forEach(refused, -1, 2, 13));
    }

    private static void noSuchBlockOrRegion() {
        String blocks = """
            birth(?) = throws.IndexOutOfBoundsException
            references(?) = throws.IndexOutOfBoundsException
            """;
        String regions = """
            freeIn(?) = throws.IndexOutOfBoundsException
            logEntries(?) = throws.IndexOutOfBoundsException
            runAt(?, 0) = throws.IndexOutOfBoundsException
            allocates(?, 0) = throws.IndexOutOfBoundsException
            replay(?) = throws.IndexOutOfBoundsException
            """;
        for (String state : List.of(NEW, USED, FULL)) {
            Refusals.of("no such block", state,
                forEach(blocks, -1, 128, Integer.MAX_VALUE, Integer.MIN_VALUE));
            // 32 times 2^27 wraps around to 0: that is no region either.
            Refusals.of("no such region", state,
                forEach(regions, -1, 4, Integer.MAX_VALUE, Integer.MIN_VALUE, 1 << 27));
        }
    }

    private static void noSuchSnapshotOfADataset() {
        Refusals.of("a new dataset has no snapshots", NEW, """
            snapshotAt(0, -1..0) = throws.IndexOutOfBoundsException
            """);
        Refusals.of("a dataset has not so many snapshots", USED, """
            # it has 0, 1 and 4
            snapshotAt(0, -1) = throws.IndexOutOfBoundsException
            snapshotAt(0, 3) = throws.IndexOutOfBoundsException
            snapshotAt(0, 2147483647) = throws.IndexOutOfBoundsException
            snapshotAt(0, -2147483648) = throws.IndexOutOfBoundsException
            # it has 3
            snapshotAt(1, -1) = throws.IndexOutOfBoundsException
            snapshotAt(1, 1) = throws.IndexOutOfBoundsException
            # it has none
            snapshotAt(3, 0) = throws.IndexOutOfBoundsException
            """);
    }

    private static void noSuchEntry() {
        Refusals.of("the logs are empty at the beginning", NEW, """
            runAt(0..3, -1..0) = throws.IndexOutOfBoundsException
            allocates(0..3, -1..0) = throws.IndexOutOfBoundsException
            """);
        Refusals.of("a log has not so many entries", FULL, """
            runAt(0..3, 1) = throws.IndexOutOfBoundsException
            runAt(0..3, -1) = throws.IndexOutOfBoundsException
            runAt(0, 2147483647) = throws.IndexOutOfBoundsException
            runAt(0, -2147483648) = throws.IndexOutOfBoundsException
            allocates(0..3, 1) = throws.IndexOutOfBoundsException
            allocates(0..3, -1) = throws.IndexOutOfBoundsException
            allocates(0, 2147483647) = throws.IndexOutOfBoundsException
            allocates(0, -2147483648) = throws.IndexOutOfBoundsException
            """);
    }

    private static void counts() {
        String refused = """
            punch(0, 0, 0, 0) = throws.IllegalArgumentException
            punch(0, 0, 0, -1) = throws.IllegalArgumentException
            punch(0, 0, 0, -2147483648) = throws.IllegalArgumentException
            punch(0, 0, 0, 17) = throws.IllegalArgumentException
            punch(0, 0, 1, 16) = throws.IllegalArgumentException
            punch(0, 0, 15, 2) = throws.IllegalArgumentException
            punch(0, 7, 15, 2) = throws.IllegalArgumentException
            punch(0, 0, 0, 2147483647) = throws.IllegalArgumentException
            # the index and the count together wrap around
            punch(0, 0, 1, 2147483647) = throws.IllegalArgumentException
            punch(0, 7, 15, 2147483647) = throws.IllegalArgumentException
            reflink(0, 0, 0, 5, 0, 0) = throws.IllegalArgumentException
            reflink(0, 0, 0, 5, 0, -1) = throws.IllegalArgumentException
            reflink(0, 0, 0, 5, 0, -2147483648) = throws.IllegalArgumentException
            reflink(0, 0, 0, 5, 0, 17) = throws.IllegalArgumentException
            # one of the files has not so many indexes
            reflink(0, 0, 1, 5, 0, 16) = throws.IllegalArgumentException
            reflink(0, 0, 0, 5, 1, 16) = throws.IllegalArgumentException
            reflink(0, 0, 15, 5, 0, 2) = throws.IllegalArgumentException
            reflink(0, 0, 0, 5, 15, 2) = throws.IllegalArgumentException
            reflink(0, 7, 15, 7, 14, 2) = throws.IllegalArgumentException
            reflink(0, 7, 14, 7, 15, 2) = throws.IllegalArgumentException
            reflink(0, 0, 0, 5, 0, 2147483647) = throws.IllegalArgumentException
            reflink(0, 0, 15, 5, 0, 2147483647) = throws.IllegalArgumentException
            reflink(0, 0, 0, 5, 15, 2147483647) = throws.IllegalArgumentException
            reflink(0, 0, 15, 5, 15, 2147483647) = throws.IllegalArgumentException
            """;
        Refusals.of("a count that is too small or too great", USED, refused);
        Refusals.of("a count that is too small or too great, of holes", NEW, refused);
        Refusals.of("a count that is too small or too great, in a full volume", FULL, refused);
    }

    private static void indexesComeAheadOfCounts() {
        Refusals.of("a wrong place and a wrong count", USED, """
            punch(2, 0, 0, 0) = throws.IndexOutOfBoundsException
            punch(-1, 0, 15, 2) = throws.IndexOutOfBoundsException
            punch(0, -1, 0, 0) = throws.IndexOutOfBoundsException
            punch(0, 8, 0, 17) = throws.IndexOutOfBoundsException
            punch(0, 0, -1, 0) = throws.IndexOutOfBoundsException
            punch(0, 0, -1, 17) = throws.IndexOutOfBoundsException
            punch(0, 0, 16, 0) = throws.IndexOutOfBoundsException
            punch(0, 0, 16, 1) = throws.IndexOutOfBoundsException
            reflink(2, 0, 0, 0, 0, 0) = throws.IndexOutOfBoundsException
            reflink(0, -1, 0, 0, 0, 0) = throws.IndexOutOfBoundsException
            reflink(0, 8, 0, 0, 0, 17) = throws.IndexOutOfBoundsException
            reflink(0, 0, -1, 0, 0, 0) = throws.IndexOutOfBoundsException
            reflink(0, 0, 16, 0, 0, 17) = throws.IndexOutOfBoundsException
            # what is wrong with the file from which it takes does not come first
            reflink(0, 0, 0, -1, 0, 0) = throws.IndexOutOfBoundsException
            reflink(0, 0, 15, 8, 0, 2) = throws.IndexOutOfBoundsException
            reflink(0, 0, 15, 0, -1, 2) = throws.IndexOutOfBoundsException
            reflink(0, 0, 1, 0, 16, 16) = throws.IndexOutOfBoundsException
            reflink(0, 0, 0, 0, 16, 0) = throws.IndexOutOfBoundsException
            """);
    }

    private static void noBlockIsFree() {
        Refusals.of("no block is free, and the block there is an earlier transaction's", FULL, """
            write(0, 0..7, 0, 5) = throws.IllegalStateException
            write(0, 7, 15, 5) = throws.IllegalStateException
            # its value would stay the same
            write(0, 0, 0, 1000) = throws.IllegalStateException
            write(1, 0, 0, 5) = throws.IndexOutOfBoundsException
            write(-1, 0, 0, 5) = throws.IndexOutOfBoundsException
            write(0, -1, 0, 5) = throws.IndexOutOfBoundsException
            write(0, 8, 0, 5) = throws.IndexOutOfBoundsException
            write(0, 0, -1, 5) = throws.IndexOutOfBoundsException
            write(0, 0, 16, 5) = throws.IndexOutOfBoundsException
            """);
        Refusals.of("no block is free, and all are pending", FULL_OF_PENDING, """
            write(0, 0, 0, 5) = throws.IllegalStateException
            write(0, 7, 15, 0) = throws.IllegalStateException
            write(1, 0, 0, 5) = throws.IndexOutOfBoundsException
            write(0, 8, 0, 5) = throws.IndexOutOfBoundsException
            write(0, 0, 16, 5) = throws.IndexOutOfBoundsException
            """);
        Refusals.of("no block is free, and the block there has another reference", FULL_AND_SHARED, """
            write(0, 0, 0..1, 6) = throws.IllegalStateException
            """);
    }

    private static void blocksThatAreNotAllocated() {
        Refusals.of("no block of a new volume is allocated", NEW, """
            birth(0) = throws.IllegalStateException
            birth(31..32) = throws.IllegalStateException
            birth(127) = throws.IllegalStateException
            """);
        Refusals.of("neither free nor pending blocks are allocated", USED, """
            # block 2 never was; the dataset 0 has block 1
            birth(2) = throws.IllegalStateException
            birth(127) = throws.IllegalStateException
            """);
        Refusals.of("pending blocks are not allocated", FULL_OF_PENDING, """
            birth(0) = throws.IllegalStateException
            birth(64) = throws.IllegalStateException
            birth(127) = throws.IllegalStateException
            birth(128) = throws.IndexOutOfBoundsException
            birth(-1) = throws.IndexOutOfBoundsException
            """);
    }

    private static void twelveSnapshots() {
        Refusals.of("there are 12 snapshots", TWELVE_SNAPSHOTS, """
            snapshot(0..1) = throws.IllegalStateException
            snapshot(2) = throws.IndexOutOfBoundsException
            snapshot(-1) = throws.IndexOutOfBoundsException
            snapshot(6) = throws.IndexOutOfBoundsException
            """);
    }

    private static void sixDatasets() {
        Refusals.of("there are 6 datasets", SIX_DATASETS, """
            makeClone(0..1) = throws.IllegalStateException
            makeClone(2) = throws.IndexOutOfBoundsException
            makeClone(-1) = throws.IndexOutOfBoundsException
            """);
    }

    private static void origins() {
        Refusals.of("a snapshot that is an origin", USED, """
            destroySnapshot(1) = throws.IllegalStateException
            destroySnapshot(3) = throws.IllegalStateException
            """);
        Refusals.of("a snapshot that is the origin of some, one of them destroyed", SIX_DATASETS, """
            destroySnapshot(0..1) = throws.IllegalStateException
            """);
        Refusals.of("a snapshot that is the origin of the dataset that had it", """
            snapshot(0) = 0
            snapshot(0) = 1
            makeClone(0) = 1
            promote(1) = 1
            """, """
            destroySnapshot(0) = throws.IllegalStateException
            """);
        Refusals.of("a snapshot that is an origin again, behind a crash", """
            snapshot(0) = 0
            makeClone(0) = 1
            commit() = 2
            destroy(1) = 0
            crash() = 3
            """, """
            destroySnapshot(0) = throws.IllegalStateException
            """);
    }

    private static void rollbacks() {
        Refusals.of("a rollback that would destroy an origin", USED, """
            # the snapshots of 0 are 0, 1 and 4, and 1 is an origin
            rollback(0, 0) = throws.IllegalStateException
            """);
        Refusals.of("a rollback that would destroy an origin, the last one", """
            snapshot(0) = 0
            snapshot(0) = 1
            snapshot(0) = 2
            snapshot(0) = 3
            makeClone(3) = 1
            write(0, 0, 0, 5) = 0
            """, """
            rollback(0, 0..2) = throws.IllegalStateException
            """);
        Refusals.of("a rollback to another dataset's snapshot", USED, """
            rollback(0, 3) = throws.IllegalArgumentException
            rollback(1, 1) = throws.IllegalArgumentException
            rollback(1, 4) = throws.IllegalArgumentException
            rollback(3, 3) = throws.IllegalArgumentException
            # in the dataset to which it belongs, an origin comes behind it
            rollback(1, 0) = throws.IllegalArgumentException
            rollback(3, 0) = throws.IllegalArgumentException
            """);
        Refusals.of("a rollback with a dataset or a snapshot that is not there", USED, """
            rollback(2, 0) = throws.IndexOutOfBoundsException
            rollback(2, 2) = throws.IndexOutOfBoundsException
            rollback(4, 0) = throws.IndexOutOfBoundsException
            rollback(-1, 3) = throws.IndexOutOfBoundsException
            rollback(0, 2) = throws.IndexOutOfBoundsException
            rollback(1, 5) = throws.IndexOutOfBoundsException
            rollback(3, -1) = throws.IndexOutOfBoundsException
            """);
    }

    private static void promotions() {
        Refusals.of("the dataset 0 of a new volume is no clone", NEW, """
            promote(0) = throws.IllegalStateException
            """);
        Refusals.of("a dataset without an origin", USED, """
            promote(0) = throws.IllegalStateException
            """);
        Refusals.of("a clone that has been promoted", """
            snapshot(0) = 0
            snapshot(0) = 1
            makeClone(0) = 1
            promote(1) = 1
            """, """
            promote(1) = throws.IllegalStateException
            """);
    }

    private static void destructions() {
        Refusals.of("the only dataset", NEW, """
            destroy(0) = throws.IllegalStateException
            """);
        Refusals.of("the only dataset, with blocks", FULL, """
            destroy(0) = throws.IllegalStateException
            """);
        Refusals.of("the only dataset, with a snapshot", """
            snapshot(0) = 0
            """, """
            destroy(0) = throws.IllegalStateException
            """);
        Refusals.of("the only dataset, which is not 0", """
            snapshot(0) = 0
            makeClone(0) = 1
            promote(1) = 1
            destroy(0) = 0
            destroySnapshot(0) = 0
            """, """
            destroy(1) = throws.IllegalStateException
            destroy(0) = throws.IndexOutOfBoundsException
            """);
        Refusals.of("datasets that have snapshots", USED, """
            destroy(0..1) = throws.IllegalStateException
            destroy(2) = throws.IndexOutOfBoundsException
            """);
    }

    // ---- all mixtures

    private static final int[] DATASETS = {Integer.MIN_VALUE, -1, 0, 1, 2, 3, 5, 6, Integer.MAX_VALUE};
    private static final int[] SNAPSHOTS = {
        Integer.MIN_VALUE, -1, 0, 1, 2, 3, 4, 5, 11, 12, 13, Integer.MAX_VALUE
    };
    private static final int[] FILES = {-1, 0, 7, 8};
    private static final int[] INDEXES = {-1, 0, 15, 16};
    private static final int[] COUNTS = {Integer.MIN_VALUE, 0, 1, 2, 16, 17, Integer.MAX_VALUE};

    /** Several wrong arguments at once; what is due is what the plain model throws. */
    private static void everyMixtureOfEdges() {
        for (String state : List.of(NEW, USED, FULL, FULL_OF_PENDING, TWELVE_SNAPSHOTS, SIX_DATASETS)) {
            PlainVolume plain = new PlainVolume();
            for (Run.Call call : Run.calls(state)) {
                plain.ask(call.name(), call.arguments());
            }
            List<Run.Call> refused = new ArrayList<>();
            addRefused(refused, plain, "write", DATASETS, FILES, INDEXES, new int[] {5});
            addRefused(refused, plain, "punch", DATASETS, FILES, INDEXES, COUNTS);
            addRefused(refused, plain, "reflink", new int[] {-1, 0, 1, 6}, FILES, INDEXES, FILES,
                INDEXES, new int[] {0, 1, 2, 17});
            addRefused(refused, plain, "rollback", DATASETS, SNAPSHOTS);
            addRefused(refused, plain, "changed", SNAPSHOTS, DATASETS);
            addRefused(refused, plain, "snapshotAt", DATASETS, SNAPSHOTS);
            addRefused(refused, plain, "readSnapshot", SNAPSHOTS, FILES, INDEXES);
            addRefused(refused, plain, "blockInSnapshot", SNAPSHOTS, FILES, INDEXES);
            for (String name : List.of("snapshot", "promote", "destroy")) {
                addRefused(refused, plain, name, DATASETS);
            }
            for (String name : List.of("destroySnapshot", "makeClone")) {
                addRefused(refused, plain, name, SNAPSHOTS);
            }
            checkAll(new Refusals("every mixture of edges", state), refused);
        }
    }

    private static void checkAll(Refusals refusals, List<Run.Call> refused) {
        int atOnce = refusals.roomForRefused();
        for (int from = 0; from < refused.size(); from += atOnce) {
            refusals.check(refused.subList(from, Math.min(from + atOnce, refused.size())));
        }
    }

    private static void addRefused(List<Run.Call> refused, PlainVolume plain, String name,
            int[]... choices) {
        int[] arguments = new int[choices.length];
        addRefused(refused, plain, name, choices, arguments, 0);
    }

    private static void addRefused(List<Run.Call> refused, PlainVolume plain, String name,
            int[][] choices, int[] arguments, int at) {
        if (at == choices.length) {
            String due = plain.copy().ask(name, arguments);
            if (due.startsWith("throws.")) {
                refused.add(new Run.Call(name, arguments.clone(), due));
            }
            return;
        }
        for (int choice : choices[at]) {
            arguments[at] = choice;
            addRefused(refused, plain, name, choices, arguments, at + 1);
        }
    }

    private static String forEach(String lines, int... arguments) {
        StringBuilder all = new StringBuilder();
        for (int argument : arguments) {
            all.append(lines.replace("?", String.valueOf(argument)));
        }
        return all.toString();
    }
}
