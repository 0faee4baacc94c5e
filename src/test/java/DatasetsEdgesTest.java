/** The sentences of the promises 21 to 29 that name a boundary; RefusedTest has what they refuse. */
public final class DatasetsEdgesTest {
    public static void main(String[] args) {
        datasets();
        lowestFreeNumber();
        cloneOfAFullVolume();
        origin();
        originIsKept();
        promoteAtTheFirst();
        promoteAtTheLast();
        promoteBetween();
        promoteTwelve();
        promoteKeepsEverythingElse();
        promoteAChain();
        promoteMovesOrigins();
        destroyNothing();
        destroyAll();
        destroyRefused();
        numberIsFreeAgain();
        referenced();
        unique();
        uniqueOfSnapshot();
        newer();
        newerOfAnyInt();
        Run.end();
    }

    private static void datasets() {
        Run.of("promise 21: from 1 to 6", """
            datasets() = 1
            snapshot(0) = 0
            makeClone(0) = 1
            datasets() = 2
            makeClone(0) = 2
            makeClone(0) = 3
            makeClone(0) = 4
            datasets() = 5
            makeClone(0) = 5
            datasets() = 6
            makeClone(0) = throws.IllegalStateException
            datasets() = 6
            destroy(1..5) = 0
            datasets() = 1
            destroy(0) = throws.IllegalStateException
            datasets() = 1
            """);
    }

    private static void lowestFreeNumber() {
        Run.of("promise 22: the lowest that is free", """
            snapshot(0) = 0
            makeClone(0) = 1
            makeClone(0) = 2
            makeClone(0) = 3
            makeClone(0) = 4
            makeClone(0) = 5
            destroy(4) = 0
            destroy(2) = 0
            makeClone(0) = 2
            makeClone(0) = 4
            makeClone(0) = throws.IllegalStateException
            destroy(5) = 0
            makeClone(0) = 5
            promote(3) = 1
            destroy(0) = 0
            datasets() = 5
            makeClone(0) = 0
            origin(0) = 0
            datasets() = 6
            makeClone(0) = throws.IllegalStateException
            destroy(5) = 0
            # a crash takes back the numbers, too
            crash() = 2
            datasets() = 1
            makeClone(0) = 1
            """);
    }

    private static void cloneOfAFullVolume() {
        Run.of("promise 22: of a full volume, as a clone needs no block", Run.filled() + """
            snapshot(0) = 0
            free() = 0
            makeClone(0) = 1
            free() = 0
            references(0..127) = 3
            read(1, 7, 15) = 1127
            write(1, 0, 0, 5) = throws.IllegalStateException
            transaction() = 2
            crash() = 2
            datasets() = 1
            references(127) = 2
            """);
    }

    private static void origin() {
        Run.of("promise 23: the number of the snapshot, 0 among them; NONE if it has none", """
            origin(0) = -1
            snapshot(0) = 0
            makeClone(0) = 1
            origin(0) = -1
            origin(1) = 0
            snapshot(1) = 1
            snapshot(1) = 2
            makeClone(2) = 2
            origin(2) = 2
            # a dataset's own snapshots do not matter, nor what becomes of its places
            origin(1) = 0
            rollback(1, 2) = 0
            punch(1, 0, 0, 16) = 0
            origin(1) = 0
            """);
        Run.of("promise 23: of the last dataset there can be", """
            snapshot(0) = 0
            snapshot(0) = 1
            makeClone(0) = 1
            makeClone(0) = 2
            makeClone(0) = 3
            makeClone(0) = 4
            makeClone(1) = 5
            origin(4) = 0
            origin(5) = 1
            origin(6) = throws.IndexOutOfBoundsException
            """);
    }

    private static void originIsKept() {
        Run.of("promise 23: a number above 12", """
            snapshot(0) = 0
            destroySnapshot(0) = 0
            snapshot(0) = 1
            destroySnapshot(1) = 0
            snapshot(0) = 2
            snapshot(0) = 3
            snapshot(0) = 4
            snapshot(0) = 5
            snapshot(0) = 6
            snapshot(0) = 7
            snapshot(0) = 8
            snapshot(0) = 9
            snapshot(0) = 10
            snapshot(0) = 11
            snapshot(0) = 12
            snapshot(0) = 13
            makeClone(13) = 1
            origin(1) = 13
            promote(1) = 12
            origin(0) = 13
            snapshotAt(1, 11) = 13
            """);
    }

    private static void promoteAtTheFirst() {
        Run.of("promise 24: the origin is the first snapshot: none is ahead of it", """
            snapshot(0) = 0
            snapshot(0) = 1
            snapshot(0) = 2
            makeClone(0) = 1
            promote(1) = 1
            snapshots(1) = 1
            snapshotAt(1, 0) = 0
            snapshots(0) = 2
            snapshotAt(0, 0) = 1
            snapshotAt(0, 1) = 2
            snapshotAt(0, 2) = throws.IndexOutOfBoundsException
            datasetOf(0) = 1
            datasetOf(1..2) = 0
            origin(1) = -1
            origin(0) = 0
            """);
    }

    private static void promoteAtTheLast() {
        Run.of("promise 24: the origin is the last snapshot: none is left", """
            snapshot(0) = 0
            snapshot(0) = 1
            makeClone(1) = 1
            snapshot(1) = 2
            promote(1) = 3
            snapshotAt(1, 0) = 0
            snapshotAt(1, 1) = 1
            snapshotAt(1, 2) = 2
            snapshots(0) = 0
            snapshotAt(0, 0) = throws.IndexOutOfBoundsException
            # new ones begin at the first place again
            snapshot(0) = 3
            snapshotAt(0, 0) = 3
            # without snapshots it can be destroyed
            destroySnapshot(3) = 0
            destroy(0) = 0
            datasets() = 1
            """);
    }

    private static void promoteBetween() {
        Run.of("promise 24: ahead of its own ones, in their order", """
            snapshot(0) = 0
            snapshot(0) = 1
            snapshot(0) = 2
            # taken in the place of a destroyed one, and still behind the others
            destroySnapshot(0) = 0
            snapshot(0) = 3
            snapshot(0) = 4
            makeClone(3) = 1
            snapshot(1) = 5
            snapshot(1) = 6
            promote(1) = 5
            snapshotAt(1, 0) = 1
            snapshotAt(1, 1) = 2
            snapshotAt(1, 2) = 3
            snapshotAt(1, 3) = 5
            snapshotAt(1, 4) = 6
            snapshotAt(1, 5) = throws.IndexOutOfBoundsException
            snapshotAt(0, 0) = 4
            snapshotAt(0, 1) = throws.IndexOutOfBoundsException
            # a rollback knows what is behind what
            rollback(1, 3) = 2
            rollback(1, 1) = throws.IllegalStateException
            """);
    }

    private static void promoteTwelve() {
        Run.of("promise 24: it has all 12 snapshots then", """
            snapshot(0) = 0
            snapshot(0) = 1
            snapshot(0) = 2
            snapshot(0) = 3
            snapshot(0) = 4
            snapshot(0) = 5
            makeClone(5) = 1
            snapshot(1) = 6
            snapshot(1) = 7
            snapshot(1) = 8
            snapshot(1) = 9
            snapshot(1) = 10
            snapshot(1) = 11
            promote(1) = 12
            snapshotAt(1, 0) = 0
            snapshotAt(1, 5) = 5
            snapshotAt(1, 6) = 6
            snapshotAt(1, 11) = 11
            snapshotAt(1, 12) = throws.IndexOutOfBoundsException
            snapshots(0) = 0
            snapshot(0) = throws.IllegalStateException
            destroy(0) = 0
            """);
    }

    private static void promoteKeepsEverythingElse() {
        Run.of("promise 24: nothing else changes", """
            write(0, 0, 0, 5) = 0
            snapshot(0) = 0
            makeClone(0) = 1
            write(1, 0, 0, 6) = 32
            write(0, 0, 0, 7) = 64
            promote(1) = 1
            read(0, 0, 0) = 7
            read(1, 0, 0) = 6
            readSnapshot(0, 0, 0) = 5
            transactionOf(0) = 1
            transaction() = 2
            references(0) = 1
            pending() = 0
            free() = 125
            datasets() = 2
            # it is not committed
            crash() = 2
            origin(1) = throws.IndexOutOfBoundsException
            datasetOf(0) = 0
            """);
    }

    private static void promoteAChain() {
        Run.of("promise 24: the clone has the origin that the other dataset had", """
            snapshot(0) = 0
            makeClone(0) = 1
            snapshot(1) = 1
            makeClone(1) = 2
            snapshot(2) = 2
            makeClone(2) = 3
            # 3 comes between 1 and 2
            promote(3) = 1
            origin(3) = 1
            origin(2) = 2
            datasetOf(2) = 3
            snapshots(2) = 0
            # 3 comes between 0 and 1
            promote(3) = 2
            origin(3) = 0
            origin(1) = 1
            snapshotAt(3, 0) = 1
            snapshotAt(3, 1) = 2
            # 3 comes ahead of all
            promote(3) = 3
            origin(3) = -1
            origin(0) = 0
            snapshotAt(3, 0) = 0
            snapshotAt(3, 1) = 1
            snapshotAt(3, 2) = 2
            promote(3) = throws.IllegalStateException
            # 2 takes all of them, as its origin is the last one
            promote(2) = 3
            origin(2) = -1
            origin(3) = 2
            origin(1) = 1
            origin(0) = 0
            snapshots(3) = 0
            """);
    }

    private static void promoteMovesOrigins() {
        Run.of("promise 24: other clones of those snapshots have their origins still", """
            snapshot(0) = 0
            snapshot(0) = 1
            makeClone(0) = 1
            makeClone(1) = 2
            makeClone(1) = 3
            promote(2) = 2
            origin(0) = 1
            origin(1) = 0
            origin(2) = -1
            origin(3) = 1
            # the origin of 1 belongs to 2 now
            promote(1) = 1
            origin(1) = -1
            origin(2) = 0
            snapshotAt(2, 0) = 1
            snapshots(2) = 1
            datasetOf(0) = 1
            # and the origin of 3 to 2, the origin of which is 0
            promote(3) = 1
            origin(3) = 0
            origin(2) = 1
            origin(0) = 1
            snapshots(2) = 0
            destroySnapshot(0..1) = throws.IllegalStateException
            """);
    }

    private static void destroyNothing() {
        Run.of("promise 25: no block loses its last reference", """
            write(0, 0, 0, 5) = 0
            snapshot(0) = 0
            makeClone(0) = 1
            destroy(1) = 0
            references(0) = 2
            pending() = 0
            # nor does one that another place of another dataset has
            makeClone(0) = 1
            reflink(1, 0, 0, 3, 0, 1) = 1
            destroy(1) = 0
            """);
    }

    private static void destroyAll() {
        Run.of("promise 25: all blocks lose their last reference", """
            snapshot(0) = 0
            makeClone(0) = 1
            write(1, 0..7, 0..15, 5) = any
            destroy(1) = 128
            # born in the open transaction
            free() = 128
            pending() = 0
            makeClone(0) = 1
            write(1, 0..7, 0..15, 5) = any
            commit() = 2
            destroy(1) = 128
            free() = 0
            pending() = 128
            # two places with one block are one block
            commit() = 3
            makeClone(0) = 1
            write(1, 0, 0, 5) = 0
            reflink(1, 0, 0, 7, 0, 16) = 1
            reflink(1, 0, 0, 0, 15, 1) = 1
            destroy(1) = 1
            """);
    }

    private static void destroyRefused() {
        Run.of("promise 25: it has snapshots, or is the only dataset", """
            destroy(0) = throws.IllegalStateException
            snapshot(0) = 0
            destroy(0) = throws.IllegalStateException
            makeClone(0) = 1
            snapshot(1) = 1
            destroy(0..1) = throws.IllegalStateException
            destroySnapshot(1) = 0
            destroy(1) = 0
            destroySnapshot(0) = 0
            # the only one, without snapshots
            destroy(0) = throws.IllegalStateException
            datasets() = 1
            read(0, 0, 0) = 0
            """);
    }

    private static void numberIsFreeAgain() {
        Run.of("promise 25: its number is free again", """
            write(0, 0, 0, 5) = 0
            snapshot(0) = 0
            makeClone(0) = 1
            write(1, 0, 1, 6) = 32
            destroy(1) = 1
            read(1, 0, 0) = throws.IndexOutOfBoundsException
            write(1, 0, 0, 5) = throws.IndexOutOfBoundsException
            snapshot(1) = throws.IndexOutOfBoundsException
            snapshots(1) = throws.IndexOutOfBoundsException
            origin(1) = throws.IndexOutOfBoundsException
            promote(1) = throws.IndexOutOfBoundsException
            destroy(1) = throws.IndexOutOfBoundsException
            referenced(1) = throws.IndexOutOfBoundsException
            newer(1, 0) = throws.IndexOutOfBoundsException
            changed(0, 1) = throws.IndexOutOfBoundsException
            makeClone(0) = 1
            # nothing of the one before is there
            blockAt(1, 0, 1) = -1
            blockAt(1, 0, 0) = 0
            snapshots(1) = 0
            """);
    }

    private static void referenced() {
        Run.of("promise 26: how many different ones, from none to 128", """
            referenced(0) = 0
            write(0, 7, 15, 5) = 0
            referenced(0) = 1
            reflink(0, 7, 15, 0, 0, 1) = 1
            referenced(0) = 1
            punch(0, 7, 15, 1) = 1
            referenced(0) = 1
            punch(0, 0, 0, 1) = 1
            referenced(0) = 0
            """);
        Run.of("promise 26: all blocks", Run.filled() + """
            referenced(0) = 128
            snapshot(0) = 0
            makeClone(0) = 1
            # also those that a snapshot and another dataset have
            referenced(0..1) = 128
            punch(0, 0..7, 0, 16) = 16
            referenced(0) = 0
            referenced(1) = 128
            """);
    }

    private static void unique() {
        Run.of("promise 27: how many different ones, from none to 128", """
            unique(0) = 0
            write(0, 0, 0, 5) = 0
            reflink(0, 0, 0, 7, 15, 1) = 1
            unique(0) = 1
            """);
        Run.of("promise 27: no other dataset and no snapshot", Run.filled() + """
            unique(0) = 128
            snapshot(0) = 0
            unique(0) = 0
            makeClone(0) = 1
            unique(0..1) = 0
            # only the clone has them then, and the snapshot, to which it makes no difference
            punch(0, 0..7, 0, 16) = 16
            unique(1) = 0
            promote(1) = 1
            unique(1) = 0
            destroy(0) = 0
            destroySnapshot(0) = 0
            unique(1) = 128
            """);
        Run.of("promise 27: other datasets and their snapshots have it, behind the destruction of the first", """
            write(0, 0, 0, 5) = 0
            snapshot(0) = 0
            makeClone(0) = 1
            promote(1) = 1
            snapshot(0) = 1
            makeClone(1) = 2
            promote(2) = 1
            unique(0..2) = 0
            destroy(0) = 0
            unique(1..2) = 0
            write(1, 0, 1, 6) = 32
            unique(1) = 1
            unique(2) = 0
            """);
    }

    private static void uniqueOfSnapshot() {
        Run.of("promise 28: no dataset and no other snapshot", Run.filled() + """
            snapshot(0) = 0
            uniqueOfSnapshot(0) = 0
            snapshot(0) = 1
            punch(0, 0..7, 0, 16) = 16
            # another snapshot has them
            uniqueOfSnapshot(0..1) = 0
            makeClone(1) = 1
            destroySnapshot(0) = 0
            # another dataset has them
            uniqueOfSnapshot(1) = 0
            destroy(1) = 0
            uniqueOfSnapshot(1) = 128
            """);
        Run.of("promise 28: two places of a snapshot with one block are one block", """
            write(0, 0, 0, 5) = 0
            reflink(0, 0, 0, 7, 15, 1) = 1
            snapshot(0) = 0
            punch(0, 0, 0, 1) = 1
            uniqueOfSnapshot(0) = 0
            punch(0, 7, 15, 1) = 1
            uniqueOfSnapshot(0) = 1
            """);
    }

    private static void newer() {
        Run.of("promise 29: behind a transaction: that one itself is not", Run.filled() + """
            newer(0, 0) = 128
            newer(0, 1) = 0
            commit() = 1
            newer(0, 0) = 128
            newer(0, 1) = 0
            punch(0, 0, 0, 1) = 1
            newer(0, 0) = 127
            commit() = 2
            write(0, 0, 0, 5) = 0
            newer(0, 1) = 1
            newer(0, 2) = 1
            newer(0, 3) = 0
            # places are counted, not blocks
            reflink(0, 0, 0, 1, 0, 1) = 1
            newer(0, 2) = 2
            newer(0, 0) = 128
            """);
    }

    private static void newerOfAnyInt() {
        Run.of("promise 29: any int, for holes and for blocks", """
            # a hole has no birth, not even one in the transaction 0
            newer(0, -2147483648) = 0
            newer(0, -1) = 0
            newer(0, 0) = 0
            newer(0, 2147483647) = 0
            write(0, 7, 15, 5) = 0
            newer(0, -2147483648) = 1
            newer(0, -1) = 1
            newer(0, 0) = 1
            newer(0, 1) = 0
            newer(0, 2) = 0
            newer(0, 2147483647) = 0
            """);
    }
}
