/** Promises 11 to 20. */
public final class SnapshotsTest {
    public static void main(String[] args) {
        snapshot();
        twelveSnapshots();
        readSnapshot();
        blockInSnapshot();
        transactionOf();
        datasetOf();
        snapshots();
        snapshotAt();
        destroySnapshot();
        destroySnapshotFrees();
        rollback();
        rollbackRefused();
        rollbackFrees();
        changed();
        Run.end();
    }

    private static void snapshot() {
        Run.of("promise 11", """
            write(0, 0, 0, 5) = 0
            snapshot(0) = 0
            transaction() = 2
            references(0) = 2
            logEntries(0) = 1
            # the snapshot is committed, and with it what was open
            crash() = 2
            snapshots(0) = 1
            read(0, 0, 0) = 5
            write(0, 0, 0, 6) = 32
            readSnapshot(0, 0, 0) = 5
            references(0) = 1
            pending() = 0
            punch(0, 0, 0, 1) = 1
            readSnapshot(0, 0, 0) = 5
            free() = 127
            snapshot(0) = 1
            readSnapshot(1, 0, 0) = 0
            # what was pending is free, behind the commit
            write(0, 0, 0, 1) = 32
            commit() = 3
            write(0, 0, 0, 2) = 64
            pending() = 1
            snapshot(0) = 2
            pending() = 0
            snapshot(1) = throws.IndexOutOfBoundsException
            snapshot(-1) = throws.IndexOutOfBoundsException
            snapshot(6) = throws.IndexOutOfBoundsException
            transaction() = 5
            destroySnapshot(2) = 0
            snapshot(0) = 3
            snapshotAt(0, 2) = 3
            makeClone(3) = 1
            snapshot(1) = 4
            datasetOf(4) = 1
            snapshotAt(1, 0) = 4
            """);
    }

    private static void twelveSnapshots() {
        Run.of("promise 11, 12 snapshots", """
            snapshot(0) = 0
            makeClone(0) = 1
            snapshot(0) = 1
            snapshot(1) = 2
            snapshot(0) = 3
            snapshot(1) = 4
            snapshot(0) = 5
            snapshot(1) = 6
            snapshot(0) = 7
            snapshot(1) = 8
            snapshot(0) = 9
            snapshot(1) = 10
            snapshot(0) = 11
            snapshots(0) = 7
            snapshots(1) = 5
            write(0, 0, 0, 1) = 0
            snapshot(0) = throws.IllegalStateException
            snapshot(1) = throws.IllegalStateException
            snapshot(2) = throws.IndexOutOfBoundsException
            transaction() = 13
            references(0) = 1
            destroySnapshot(5) = 0
            snapshot(1) = 12
            snapshot(0) = throws.IllegalStateException
            datasetOf(12) = 1
            transactionOf(12) = 13
            """);
    }

    private static void readSnapshot() {
        Run.of("promise 12", """
            write(0, 2, 3, -9) = 0
            write(0, 7, 15, 4) = 32
            snapshot(0) = 0
            write(0, 2, 3, 8) = 64
            write(0, 2, 4, 8) = 96
            readSnapshot(0, 2, 3) = -9
            readSnapshot(0, 7, 15) = 4
            readSnapshot(0, 2, 4) = 0
            readSnapshot(1, 0, 0) = throws.IndexOutOfBoundsException
            readSnapshot(-1, 0, 0) = throws.IndexOutOfBoundsException
            readSnapshot(0, 8, 0) = throws.IndexOutOfBoundsException
            readSnapshot(0, -1, 0) = throws.IndexOutOfBoundsException
            readSnapshot(0, 0, 16) = throws.IndexOutOfBoundsException
            readSnapshot(0, 0, -1) = throws.IndexOutOfBoundsException
            destroySnapshot(0) = 1
            readSnapshot(0, 2, 3) = throws.IndexOutOfBoundsException
            """);
    }

    private static void blockInSnapshot() {
        Run.of("promise 13", """
            write(0, 2, 3, -9) = 0
            write(0, 7, 15, 4) = 32
            snapshot(0) = 0
            write(0, 7, 15, 8) = 64
            write(0, 2, 4, 8) = 96
            punch(0, 2, 3, 1) = 1
            blockInSnapshot(0, 2, 3) = 0
            blockInSnapshot(0, 7, 15) = 32
            blockInSnapshot(0, 2, 4) = -1
            blockInSnapshot(1, 0, 0) = throws.IndexOutOfBoundsException
            blockInSnapshot(-1, 0, 0) = throws.IndexOutOfBoundsException
            blockInSnapshot(0, 8, 0) = throws.IndexOutOfBoundsException
            blockInSnapshot(0, -1, 0) = throws.IndexOutOfBoundsException
            blockInSnapshot(0, 0, 16) = throws.IndexOutOfBoundsException
            blockInSnapshot(0, 0, -1) = throws.IndexOutOfBoundsException
            snapshot(0) = 1
            destroySnapshot(0) = 2
            blockInSnapshot(0, 2, 3) = throws.IndexOutOfBoundsException
            blockInSnapshot(1, 7, 15) = 64
            """);
    }

    private static void transactionOf() {
        Run.of("promise 14", """
            transactionOf(0) = throws.IndexOutOfBoundsException
            snapshot(0) = 0
            transactionOf(0) = 1
            commit() = 2
            commit() = 3
            snapshot(0) = 1
            transactionOf(1) = 4
            transactionOf(0) = 1
            makeClone(1) = 1
            promote(1) = 2
            transactionOf(1) = 4
            transactionOf(2) = throws.IndexOutOfBoundsException
            transactionOf(-1) = throws.IndexOutOfBoundsException
            """);
    }

    private static void datasetOf() {
        Run.of("promise 15", """
            datasetOf(0) = throws.IndexOutOfBoundsException
            snapshot(0) = 0
            snapshot(0) = 1
            snapshot(0) = 2
            makeClone(1) = 1
            snapshot(1) = 3
            datasetOf(0..2) = 0
            datasetOf(3) = 1
            promote(1) = 3
            datasetOf(0..1) = 1
            datasetOf(2) = 0
            datasetOf(3) = 1
            destroySnapshot(2) = 0
            datasetOf(2) = throws.IndexOutOfBoundsException
            datasetOf(4) = throws.IndexOutOfBoundsException
            datasetOf(-1) = throws.IndexOutOfBoundsException
            """);
    }

    private static void snapshots() {
        Run.of("promise 16", """
            snapshots(0) = 0
            snapshot(0) = 0
            snapshot(0) = 1
            snapshots(0) = 2
            makeClone(1) = 1
            snapshots(1) = 0
            snapshot(1) = 2
            snapshots(1) = 1
            snapshots(0) = 2
            destroySnapshot(0) = 0
            snapshots(0) = 1
            promote(1) = 2
            snapshots(0) = 0
            snapshots(2) = throws.IndexOutOfBoundsException
            snapshots(-1) = throws.IndexOutOfBoundsException
            snapshots(6) = throws.IndexOutOfBoundsException
            destroy(0) = 0
            snapshots(0) = throws.IndexOutOfBoundsException
            snapshots(1) = 2
            """);
    }

    private static void snapshotAt() {
        Run.of("promise 17", """
            snapshotAt(0, 0) = throws.IndexOutOfBoundsException
            snapshot(0) = 0
            makeClone(0) = 1
            snapshot(1) = 1
            snapshot(0) = 2
            snapshot(0) = 3
            snapshotAt(0, 0) = 0
            snapshotAt(0, 1) = 2
            snapshotAt(0, 2) = 3
            snapshotAt(0, 3) = throws.IndexOutOfBoundsException
            snapshotAt(0, -1) = throws.IndexOutOfBoundsException
            snapshotAt(1, 0) = 1
            snapshotAt(1, 1) = throws.IndexOutOfBoundsException
            snapshotAt(2, 0) = throws.IndexOutOfBoundsException
            snapshotAt(-1, 0) = throws.IndexOutOfBoundsException
            destroySnapshot(2) = 0
            snapshotAt(0, 1) = 3
            snapshotAt(0, 2) = throws.IndexOutOfBoundsException
            # the order is not that of the numbers: 3 and 4, behind promoting 5 and 6
            snapshot(0) = 4
            snapshotAt(0, 2) = 4
            snapshotAt(0, 2147483647) = throws.IndexOutOfBoundsException
            makeClone(3) = 2
            snapshot(2) = 5
            snapshot(0) = 6
            promote(2) = 3
            snapshotAt(2, 0) = 0
            snapshotAt(2, 1) = 3
            snapshotAt(2, 2) = 5
            snapshotAt(0, 0) = 4
            snapshotAt(0, 1) = 6
            """);
    }

    private static void destroySnapshot() {
        Run.of("promise 18", """
            destroySnapshot(0) = throws.IndexOutOfBoundsException
            write(0, 0, 0, 1) = 0
            write(0, 0, 1, 2) = 32
            snapshot(0) = 0
            write(0, 0, 0, 3) = 64
            snapshot(0) = 1
            write(0, 0, 1, 4) = 96
            snapshot(0) = 2
            makeClone(1) = 1
            destroySnapshot(1) = throws.IllegalStateException
            snapshots(0) = 3
            destroySnapshot(0) = 1
            snapshots(0) = 2
            snapshotAt(0, 0) = 1
            destroySnapshot(0) = throws.IndexOutOfBoundsException
            destroySnapshot(3) = throws.IndexOutOfBoundsException
            destroySnapshot(-1) = throws.IndexOutOfBoundsException
            destroySnapshot(2) = 0
            destroy(1) = 0
            destroySnapshot(1) = 1
            snapshots(0) = 0
            free() = 124
            pending() = 2
            """);
    }

    private static void destroySnapshotFrees() {
        Run.of("promise 18, what becomes of the blocks", """
            write(0, 0, 0, 1) = 0
            reflink(0, 0, 0, 1, 0, 16) = 1
            write(0, 0, 1, 1) = 32
            snapshot(0) = 0
            punch(0, 0, 0, 16) = 2
            references(0) = 3
            punch(0, 1, 0, 1) = 1
            references(0) = 2
            destroySnapshot(0) = 2
            pending() = 2
            free() = 126
            references(0) = 0
            commit() = 2
            free() = 128
            """);
    }

    private static void rollback() {
        Run.of("promise 19", """
            write(0, 0, 0, 1) = 0
            write(0, 7, 15, 2) = 32
            snapshot(0) = 0
            write(0, 0, 0, 3) = 64
            snapshot(0) = 1
            write(0, 0, 0, 4) = 96
            snapshot(0) = 2
            snapshot(0) = 3
            write(0, 5, 5, 5) = 1
            punch(0, 7, 15, 1) = 1
            rollback(0, 2) = 1
            blockAt(0, 0, 0) = 96
            blockAt(0, 5, 5) = -1
            blockAt(0, 7, 15) = 32
            # behind the first, three are left: 0, 1 and 2
            snapshots(0) = 3
            rollback(0, 2) = 0
            rollback(0, 0) = 2
            snapshots(0) = 1
            snapshotAt(0, 0) = 0
            read(0, 0, 0) = 1
            datasetOf(1..3) = throws.IndexOutOfBoundsException
            snapshot(0) = 4
            snapshotAt(0, 1) = 4
            transaction() = 6
            # a clone rolls back to its own snapshot
            makeClone(0) = 1
            snapshot(1) = 5
            write(1, 0, 0, 9) = any
            snapshot(1) = 6
            rollback(1, 5) = 1
            read(1, 0, 0) = 1
            snapshots(0) = 2
            """);
    }

    private static void rollbackRefused() {
        Run.of("promise 19, wrong inputs", """
            rollback(0, 0) = throws.IndexOutOfBoundsException
            snapshot(0) = 0
            snapshot(0) = 1
            snapshot(0) = 2
            makeClone(1) = 1
            snapshot(1) = 3
            write(0, 0, 0, 1) = 0
            rollback(0, 0) = throws.IllegalStateException
            snapshots(0) = 3
            blockAt(0, 0, 0) = 0
            rollback(0, 1) = 1
            blockAt(0, 0, 0) = -1
            rollback(0, 3) = throws.IllegalArgumentException
            rollback(1, 1) = throws.IllegalArgumentException
            # it belongs to another dataset, and there an origin is behind it
            rollback(1, 0) = throws.IllegalArgumentException
            rollback(0, 2) = throws.IndexOutOfBoundsException
            rollback(0, -1) = throws.IndexOutOfBoundsException
            rollback(0, 4) = throws.IndexOutOfBoundsException
            rollback(-1, 0) = throws.IndexOutOfBoundsException
            rollback(2, 0) = throws.IndexOutOfBoundsException
            rollback(6, 0) = throws.IndexOutOfBoundsException
            rollback(1, 3) = 0
            """);
    }

    private static void rollbackFrees() {
        Run.of("promise 19, what becomes of the blocks", """
            write(0, 0, 0, 1) = 0
            snapshot(0) = 0
            write(0, 0, 0, 2) = 32
            write(0, 0, 1, 2) = 64
            snapshot(0) = 1
            write(0, 0, 2, 2) = 96
            free() = 124
            rollback(0, 0) = 1
            # born in the open transaction: free at once; the others: pending
            free() = 125
            pending() = 2
            references(0) = 2
            commit() = 3
            free() = 127
            # what the dataset and a destroyed snapshot had is still one block
            rollback(0, 0) = 0
            pending() = 0
            """);
    }

    private static void changed() {
        Run.of("promise 20", """
            changed(0, 0) = throws.IndexOutOfBoundsException
            write(0, 0, 0, 1) = 0
            write(0, 0, 1, 2) = 32
            write(0, 7, 15, 2) = 64
            snapshot(0) = 0
            changed(0, 0) = 0
            write(0, 0, 0, 1) = 96
            changed(0, 0) = 1
            punch(0, 0, 1, 1) = 1
            changed(0, 0) = 2
            write(0, 3, 3, 3) = 1
            changed(0, 0) = 3
            punch(0, 7, 15, 1) = 1
            changed(0, 0) = 4
            reflink(0, 0, 0, 2, 0, 1) = 1
            changed(0, 0) = 5
            makeClone(0) = 1
            changed(0, 1) = 0
            snapshot(0) = 1
            changed(1, 0) = 0
            changed(1, 1) = 5
            changed(2, 0) = throws.IndexOutOfBoundsException
            changed(-1, 0) = throws.IndexOutOfBoundsException
            changed(0, 2) = throws.IndexOutOfBoundsException
            changed(0, -1) = throws.IndexOutOfBoundsException
            rollback(0, 0) = 1
            changed(0, 0) = 0
            """);
    }
}
