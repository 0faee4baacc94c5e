/** The sentences of the promises 11 to 20 that name a boundary; RefusedTest has what they refuse. */
public final class SnapshotsEdgesTest {
    private static final String TWELVE_OF_A_DATASET = """
        write(0, 0, 0, 100) = 0
        snapshot(0) = 0
        snapshot(0) = 1
        snapshot(0) = 2
        snapshot(0) = 3
        snapshot(0) = 4
        snapshot(0) = 5
        snapshot(0) = 6
        snapshot(0) = 7
        snapshot(0) = 8
        snapshot(0) = 9
        snapshot(0) = 10
        write(0, 0, 0, 111) = 32
        snapshot(0) = 11
        """;

    public static void main(String[] args) {
        snapshotOfNothing();
        snapshotOfAFullVolume();
        twelfthSnapshot();
        readSnapshot();
        snapshotsNeverChange();
        transactionOf();
        datasetOf();
        snapshots();
        snapshotAt();
        destroySnapshotOfNothing();
        destroySnapshotOfAll();
        destroySnapshotThatWasAnOrigin();
        destroySnapshotAnywhere();
        rollbackToTheLast();
        rollbackToTheFirst();
        rollbackOfOrigins();
        rollbackToHoles();
        rollbackInAnyOrder();
        rollbackOfAPromotedClone();
        changed();
        Run.end();
    }

    private static void snapshotOfNothing() {
        Run.of("promise 11: of a dataset without blocks", """
            snapshot(0) = 0
            blockInSnapshot(0, 0, 0) = -1
            blockInSnapshot(0, 7, 15) = -1
            readSnapshot(0, 7, 15) = 0
            uniqueOfSnapshot(0) = 0
            changed(0, 0) = 0
            free() = 128
            destroySnapshot(0) = 0
            """);
    }

    private static void snapshotOfAFullVolume() {
        Run.of("promise 11: of a full volume, as it needs no block", Run.filled() + """
            snapshot(0) = 0
            free() = 0
            references(0..127) = 2
            readSnapshot(0, 0, 0) = 1000
            readSnapshot(0, 7, 15) = 1127
            # each block has another reference now
            write(0, 0, 0, 5) = throws.IllegalStateException
            unique(0) = 0
            uniqueOfSnapshot(0) = 0
            """);
    }

    private static void twelfthSnapshot() {
        Run.of("promise 11: 12 snapshots, and none more", TWELVE_OF_A_DATASET + """
            snapshots(0) = 12
            snapshot(0) = throws.IllegalStateException
            transaction() = 13
            # not before one is destroyed for good; and its number is the next one
            destroySnapshot(5) = 0
            crash() = 13
            snapshot(0) = throws.IllegalStateException
            destroySnapshot(5) = 0
            snapshot(0) = 12
            snapshotAt(0, 11) = 12
            snapshot(0) = throws.IllegalStateException
            transactionOf(12) = 13
            """);
        Run.of("promise 11: 12 snapshots of two datasets", """
            snapshot(0) = 0
            makeClone(0) = 1
            snapshot(1) = 1
            snapshot(1) = 2
            snapshot(1) = 3
            snapshot(1) = 4
            snapshot(1) = 5
            snapshot(1) = 6
            snapshot(1) = 7
            snapshot(1) = 8
            snapshot(1) = 9
            snapshot(1) = 10
            snapshot(0) = 11
            snapshot(0..1) = throws.IllegalStateException
            snapshots(0) = 2
            snapshots(1) = 10
            """);
    }

    private static void readSnapshot() {
        Run.of("promises 12 and 13: file 0 to 7, index 0 to 15", """
            write(0, 0, 0, 1) = 0
            write(0, 0, 15, 2) = 32
            write(0, 7, 0, 3) = 64
            write(0, 7, 15, 4) = 96
            snapshot(0) = 0
            readSnapshot(0, 0, 0) = 1
            readSnapshot(0, 0, 15) = 2
            readSnapshot(0, 7, 0) = 3
            readSnapshot(0, 7, 15) = 4
            blockInSnapshot(0, 0, 0) = 0
            blockInSnapshot(0, 0, 15) = 32
            blockInSnapshot(0, 7, 0) = 64
            blockInSnapshot(0, 7, 15) = 96
            # 0 for a hole, and NONE
            readSnapshot(0, 0, 1) = 0
            readSnapshot(0, 1, 0) = 0
            readSnapshot(0, 6, 15) = 0
            blockInSnapshot(0, 0, 14) = -1
            blockInSnapshot(0, 1, 0) = -1
            blockInSnapshot(0, 7, 14) = -1
            """);
        Run.of("promises 12 and 13: the last of 12 snapshots, and the 13th", TWELVE_OF_A_DATASET + """
            readSnapshot(0..10, 0, 0) = 100
            readSnapshot(11, 0, 0) = 111
            blockInSnapshot(0..10, 0, 0) = 0
            blockInSnapshot(11, 0, 0) = 32
            readSnapshot(12, 0, 0) = throws.IndexOutOfBoundsException
            blockInSnapshot(12, 0, 0) = throws.IndexOutOfBoundsException
            destroySnapshot(3) = 0
            punch(0, 0, 0, 1) = 1
            snapshot(0) = 12
            readSnapshot(12, 0, 0) = 0
            readSnapshot(3, 0, 0) = throws.IndexOutOfBoundsException
            blockInSnapshot(3, 0, 0) = throws.IndexOutOfBoundsException
            """);
    }

    private static void snapshotsNeverChange() {
        Run.of("The aim is that a snapshot never changes", """
            write(0, 0, 0, 1) = 0
            write(0, 0, 1, 2) = 32
            snapshot(0) = 0
            makeClone(0) = 1
            write(0, 0, 0, 3) = 64
            write(1, 0, 0, 4) = 96
            punch(0, 0, 1, 1) = 1
            reflink(1, 0, 0, 0, 1, 15) = 2
            commit() = 2
            promote(1) = 1
            write(1, 0, 0, 5) = 1
            destroy(0) = 1
            commit() = 3
            rollback(1, 0) = 0
            crash() = 4
            readSnapshot(0, 0, 0) = 1
            readSnapshot(0, 0, 1) = 2
            readSnapshot(0, 0, 2) = 0
            blockInSnapshot(0, 0, 0) = 0
            blockInSnapshot(0, 0, 1) = 32
            blockInSnapshot(0, 0, 2) = -1
            transactionOf(0) = 1
            """);
    }

    private static void transactionOf() {
        Run.of("promise 14: the transaction that was committed as it was taken", """
            transactionOf(0) = throws.IndexOutOfBoundsException
            snapshot(0) = 0
            snapshot(0) = 1
            transactionOf(0) = 1
            transactionOf(1) = 2
            transactionOf(2) = throws.IndexOutOfBoundsException
            transactionOf(-1) = throws.IndexOutOfBoundsException
            write(0, 0, 0, 5) = 0
            crash() = 3
            snapshot(0) = 2
            transactionOf(2) = 3
            destroySnapshot(1) = 0
            transactionOf(1) = throws.IndexOutOfBoundsException
            transactionOf(2) = 3
            snapshot(0) = 3
            transactionOf(3) = 4
            """);
    }

    private static void datasetOf() {
        Run.of("promise 15: the last dataset there can be", """
            snapshot(0) = 0
            makeClone(0) = 1
            makeClone(0) = 2
            makeClone(0) = 3
            makeClone(0) = 4
            makeClone(0) = 5
            snapshot(5) = 1
            datasetOf(0) = 0
            datasetOf(1) = 5
            datasetOf(2) = throws.IndexOutOfBoundsException
            datasetOf(-1) = throws.IndexOutOfBoundsException
            promote(5) = 2
            datasetOf(0) = 5
            destroySnapshot(1) = 0
            datasetOf(1) = throws.IndexOutOfBoundsException
            """);
    }

    private static void snapshots() {
        Run.of("promise 16: none, one, and 12", """
            snapshots(0) = 0
            snapshot(0) = 0
            snapshots(0) = 1
            makeClone(0) = 1
            snapshots(1) = 0
            destroy(1) = 0
            destroySnapshot(0) = 0
            snapshots(0) = 0
            """);
        Run.of("promise 16: 12", TWELVE_OF_A_DATASET + """
            snapshots(0) = 12
            rollback(0, 0) = 11
            snapshots(0) = 1
            crash() = 13
            snapshots(0) = 12
            """);
    }

    private static void snapshotAt() {
        Run.of("promise 17: 0 for the first one, and the 12th is the last one", TWELVE_OF_A_DATASET + """
            snapshotAt(0, 0) = 0
            snapshotAt(0, 1) = 1
            snapshotAt(0, 10) = 10
            snapshotAt(0, 11) = 11
            snapshotAt(0, 12) = throws.IndexOutOfBoundsException
            snapshotAt(0, -1) = throws.IndexOutOfBoundsException
            destroySnapshot(0) = 0
            snapshotAt(0, 0) = 1
            snapshotAt(0, 10) = 11
            snapshotAt(0, 11) = throws.IndexOutOfBoundsException
            destroySnapshot(11) = 0
            snapshotAt(0, 9) = 10
            snapshotAt(0, 10) = throws.IndexOutOfBoundsException
            """);
        Run.of("promise 17: it has not so many, but another dataset has", """
            snapshot(0) = 0
            snapshot(0) = 1
            makeClone(0) = 1
            snapshotAt(1, 0) = throws.IndexOutOfBoundsException
            snapshot(1) = 2
            snapshotAt(1, 0) = 2
            snapshotAt(1, 1) = throws.IndexOutOfBoundsException
            snapshotAt(0, 1) = 1
            snapshotAt(0, 2) = throws.IndexOutOfBoundsException
            """);
    }

    private static void destroySnapshotOfNothing() {
        Run.of("promise 18: no block loses its last reference", """
            write(0, 0, 0, 5) = 0
            snapshot(0) = 0
            # the dataset has it
            destroySnapshot(0) = 0
            snapshot(0) = 1
            makeClone(1) = 1
            snapshot(0) = 2
            punch(0, 0, 0, 1) = 1
            punch(1, 0, 0, 1) = 1
            # another snapshot has it
            destroySnapshot(2) = 0
            destroy(1) = 0
            destroySnapshot(1) = 1
            destroySnapshot(1) = throws.IndexOutOfBoundsException
            """);
    }

    private static void destroySnapshotOfAll() {
        Run.of("promise 18: all blocks lose their last reference", Run.filled() + """
            snapshot(0) = 0
            punch(0, 0..7, 0, 16) = 16
            pending() = 0
            uniqueOfSnapshot(0) = 128
            destroySnapshot(0) = 128
            pending() = 128
            free() = 0
            snapshots(0) = 0
            commit() = 2
            free() = 128
            """);
    }

    private static void destroySnapshotThatWasAnOrigin() {
        Run.of("promise 18: the origin of two datasets, of one, and of none", """
            snapshot(0) = 0
            makeClone(0) = 1
            makeClone(0) = 2
            destroySnapshot(0) = throws.IllegalStateException
            destroy(1) = 0
            destroySnapshot(0) = throws.IllegalStateException
            destroy(2) = 0
            destroySnapshot(0) = 0
            """);
        Run.of("promise 18: the origin of a dataset that becomes another one's", """
            snapshot(0) = 0
            snapshot(0) = 1
            makeClone(1) = 1
            destroySnapshot(1) = throws.IllegalStateException
            destroySnapshot(0) = 0
            promote(1) = 1
            # it is the origin of the dataset 0 now
            destroySnapshot(1) = throws.IllegalStateException
            destroy(0) = 0
            destroySnapshot(1) = 0
            snapshots(1) = 0
            """);
        Run.of("promise 18: a new clone in the open transaction makes it an origin", """
            snapshot(0) = 0
            makeClone(0) = 1
            destroySnapshot(0) = throws.IllegalStateException
            crash() = 2
            destroySnapshot(0) = 0
            """);
    }

    private static void destroySnapshotAnywhere() {
        Run.of("promise 18: the first, the last and one between, of a dataset with others", """
            snapshot(0) = 0
            makeClone(0) = 1
            snapshot(0) = 1
            snapshot(1) = 2
            snapshot(0) = 3
            snapshot(1) = 4
            snapshot(0) = 5
            destroySnapshot(3) = 0
            snapshotAt(0, 0) = 0
            snapshotAt(0, 1) = 1
            snapshotAt(0, 2) = 5
            snapshotAt(1, 0) = 2
            snapshotAt(1, 1) = 4
            destroySnapshot(5) = 0
            snapshots(0) = 2
            destroySnapshot(2) = 0
            snapshotAt(1, 0) = 4
            # new ones may lie anywhere inside, but come behind the others
            snapshot(0) = 6
            snapshot(1) = 7
            snapshotAt(0, 2) = 6
            snapshotAt(1, 1) = 7
            destroySnapshot(1) = 0
            snapshotAt(0, 0) = 0
            snapshotAt(0, 1) = 6
            """);
    }

    private static void rollbackToTheLast() {
        Run.of("promise 19: to its last snapshot: none is destroyed", """
            write(0, 0, 0, 5) = 0
            snapshot(0) = 0
            rollback(0, 0) = 0
            write(0, 0, 0, 6) = 32
            write(0, 7, 15, 6) = 64
            rollback(0, 0) = 0
            snapshots(0) = 1
            blockAt(0, 0, 0) = 0
            blockAt(0, 7, 15) = -1
            # born in the open transaction
            free() = 127
            pending() = 0
            """);
    }

    private static void rollbackToTheFirst() {
        Run.of("promise 19: to the first of 12 snapshots: 11 are destroyed", TWELVE_OF_A_DATASET + """
            rollback(0, 0) = 11
            snapshots(0) = 1
            snapshotAt(0, 0) = 0
            datasetOf(1..11) = throws.IndexOutOfBoundsException
            read(0, 0, 0) = 100
            pending() = 1
            references(0) = 2
            snapshot(0) = 12
            snapshots(0) = 2
            """);
        Run.of("promise 19: to one between", TWELVE_OF_A_DATASET + """
            rollback(0, 10) = 1
            snapshots(0) = 11
            snapshotAt(0, 10) = 10
            datasetOf(11) = throws.IndexOutOfBoundsException
            datasetOf(10) = 0
            read(0, 0, 0) = 100
            rollback(0, 5) = 5
            snapshots(0) = 6
            """);
    }

    private static void rollbackOfOrigins() {
        Run.of("promise 19: the snapshot itself, and those ahead of it, may be origins", """
            snapshot(0) = 0
            snapshot(0) = 1
            snapshot(0) = 2
            makeClone(0) = 1
            makeClone(1) = 2
            write(0, 0, 0, 5) = 0
            rollback(0, 0) = throws.IllegalStateException
            snapshots(0) = 3
            blockAt(0, 0, 0) = 0
            rollback(0, 1) = 1
            blockAt(0, 0, 0) = -1
            rollback(0, 0) = throws.IllegalStateException
            # once the clone is destroyed, it is none any more
            destroy(2) = 0
            rollback(0, 0) = 1
            """);
        Run.of("promise 19: an origin of another dataset does not matter", """
            snapshot(0) = 0
            snapshot(0) = 1
            makeClone(0) = 1
            snapshot(1) = 2
            snapshot(1) = 3
            makeClone(3) = 2
            rollback(0, 0) = 1
            rollback(1, 2) = throws.IllegalStateException
            rollback(1, 3) = 0
            """);
    }

    private static void rollbackToHoles() {
        Run.of("promise 19: at each place, from a full dataset to one without blocks", """
            snapshot(0) = 0
            write(0, 0..7, 0..15, 5) = any
            commit() = 2
            rollback(0, 0) = 0
            referenced(0) = 0
            length(0, 0..7) = 0
            pending() = 128
            commit() = 3
            free() = 128
            """);
        Run.of("promise 19: at each place, from holes to a full dataset", Run.filled() + """
            snapshot(0) = 0
            punch(0, 0..7, 0, 16) = 16
            rollback(0, 0) = 0
            referenced(0) = 128
            read(0, 0, 0) = 1000
            read(0, 7, 15) = 1127
            references(0..127) = 2
            pending() = 0
            """);
    }

    private static void rollbackInAnyOrder() {
        Run.of("promise 19: those that come behind, also if they were taken in the place of "
            + "destroyed ones", """
            snapshot(0) = 0
            snapshot(0) = 1
            snapshot(0) = 2
            destroySnapshot(0) = 0
            write(0, 0, 0, 5) = 0
            snapshot(0) = 3
            rollback(0, 2) = 1
            datasetOf(3) = throws.IndexOutOfBoundsException
            datasetOf(1..2) = 0
            snapshots(0) = 2
            blockAt(0, 0, 0) = -1
            pending() = 1
            snapshot(0) = 4
            destroySnapshot(1) = 0
            snapshotAt(0, 0) = 2
            snapshotAt(0, 1) = 4
            makeClone(4) = 1
            rollback(0, 2) = throws.IllegalStateException
            destroy(1) = 0
            rollback(0, 2) = 1
            """);
        Run.of("promise 19: those that come behind, the first of all places among them", """
            snapshot(0) = 0
            snapshot(0) = 1
            destroySnapshot(0) = 0
            snapshot(0) = 2
            makeClone(2) = 1
            # 2 is behind 1, and an origin
            rollback(0, 1) = throws.IllegalStateException
            destroySnapshot(2) = throws.IllegalStateException
            destroySnapshot(1) = 0
            snapshotAt(0, 0) = 2
            snapshots(0) = 1
            """);
    }

    private static void rollbackOfAPromotedClone() {
        Run.of("promise 19: those behind, in the order that a promotion made", """
            snapshot(0) = 0
            snapshot(0) = 1
            makeClone(0) = 1
            snapshot(1) = 2
            snapshot(0) = 3
            makeClone(1) = 2
            snapshot(2) = 4
            promote(2) = 3
            # the snapshots of 2 are 0, 1 and 4, where 0 and 1 are the origins of 1 and 0
            rollback(2, 0) = throws.IllegalStateException
            rollback(2, 1) = 1
            snapshots(2) = 2
            datasetOf(4) = throws.IndexOutOfBoundsException
            # that of 0 is 3; it belonged to it with the others ahead
            rollback(0, 1) = throws.IllegalArgumentException
            rollback(0, 3) = 0
            rollback(1, 2) = 0
            """);
    }

    private static void changed() {
        Run.of("promise 20: none and all of the places", Run.filled() + """
            snapshot(0) = 0
            changed(0, 0) = 0
            punch(0, 0..7, 0, 16) = 16
            # holes where that has blocks
            changed(0, 0) = 128
            snapshot(0) = 1
            changed(1, 0) = 0
            makeClone(0) = 1
            # blocks where that has holes
            changed(1, 1) = 128
            changed(0, 1) = 0
            """);
        Run.of("promise 20: another block, though its value is the same", """
            write(0, 0, 0, 5) = 0
            write(0, 7, 15, 5) = 32
            snapshot(0) = 0
            write(0, 0, 0, 5) = 64
            changed(0, 0) = 1
            reflink(0, 7, 15, 0, 0, 1) = 1
            changed(0, 0) = 1
            punch(0, 7, 15, 1) = 1
            changed(0, 0) = 2
            write(0, 7, 14, 5) = 64
            changed(0, 0) = 3
            # the block 0 where that has a hole, and a hole where that has the block 0
            rollback(0, 0) = 0
            reflink(0, 0, 0, 3, 3, 1) = 1
            changed(0, 0) = 1
            punch(0, 0, 0, 1) = 1
            changed(0, 0) = 2
            """);
    }
}
