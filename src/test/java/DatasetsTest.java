/** Promises 21 to 29. */
public final class DatasetsTest {
    public static void main(String[] args) {
        datasets();
        makeClone();
        sixDatasets();
        origin();
        promote();
        promoteChain();
        destroy();
        destroyFirst();
        destroyFrees();
        referenced();
        unique();
        uniqueOfSnapshot();
        newer();
        Run.end();
    }

    private static void datasets() {
        Run.of("promise 21", """
            datasets() = 1
            snapshot(0) = 0
            datasets() = 1
            makeClone(0) = 1
            makeClone(0) = 2
            datasets() = 3
            destroy(1) = 0
            datasets() = 2
            makeClone(0) = 1
            datasets() = 3
            crash() = 2
            datasets() = 1
            """);
    }

    private static void makeClone() {
        Run.of("promise 22", """
            makeClone(0) = throws.IndexOutOfBoundsException
            write(0, 1, 2, 5) = 0
            write(0, 7, 15, 6) = 32
            snapshot(0) = 0
            write(0, 1, 2, 7) = 64
            makeClone(0) = 1
            transaction() = 2
            blockAt(1, 1, 2) = 0
            blockAt(1, 7, 15) = 32
            blockAt(1, 0, 0) = -1
            references(0) = 2
            references(32) = 3
            # a clone has no snapshots, and its writes are its own
            snapshots(1) = 0
            write(1, 1, 2, 8) = 96
            read(0, 1, 2) = 7
            readSnapshot(0, 1, 2) = 5
            # a clone of a clone's snapshot
            snapshot(1) = 1
            makeClone(1) = 2
            origin(2) = 1
            read(2, 1, 2) = 8
            makeClone(2) = throws.IndexOutOfBoundsException
            makeClone(-1) = throws.IndexOutOfBoundsException
            # the lowest number that is free
            makeClone(0) = 3
            destroy(2) = 0
            destroy(3) = 0
            makeClone(0) = 2
            blockAt(2, 1, 2) = 0
            """);
    }

    private static void sixDatasets() {
        Run.of("promise 22, 6 datasets", """
            snapshot(0) = 0
            makeClone(0) = 1
            makeClone(0) = 2
            makeClone(0) = 3
            makeClone(0) = 4
            makeClone(0) = 5
            datasets() = 6
            makeClone(0) = throws.IllegalStateException
            makeClone(1) = throws.IndexOutOfBoundsException
            write(5, 0, 0, 4) = 0
            write(6, 0, 0, 4) = throws.IndexOutOfBoundsException
            origin(5) = 0
            origin(6) = throws.IndexOutOfBoundsException
            destroy(3) = 0
            makeClone(0) = 3
            makeClone(0) = throws.IllegalStateException
            datasets() = 6
            """);
    }

    private static void origin() {
        Run.of("promise 23", """
            origin(0) = -1
            snapshot(0) = 0
            snapshot(0) = 1
            makeClone(1) = 1
            origin(1) = 1
            origin(0) = -1
            makeClone(0) = 2
            origin(2) = 0
            promote(1) = 2
            origin(0) = 1
            origin(1) = -1
            origin(2) = 0
            origin(3) = throws.IndexOutOfBoundsException
            origin(-1) = throws.IndexOutOfBoundsException
            destroy(2) = 0
            origin(2) = throws.IndexOutOfBoundsException
            # a number that is used again has the new origin
            makeClone(1) = 2
            origin(2) = 1
            """);
    }

    private static void promote() {
        Run.of("promise 24", """
            promote(0) = throws.IllegalStateException
            promote(1) = throws.IndexOutOfBoundsException
            promote(-1) = throws.IndexOutOfBoundsException
            promote(6) = throws.IndexOutOfBoundsException
            snapshot(0) = 0
            snapshot(0) = 1
            snapshot(0) = 2
            snapshot(0) = 3
            makeClone(1) = 1
            snapshot(1) = 4
            snapshot(1) = 5
            promote(1) = 4
            snapshotAt(1, 0) = 0
            snapshotAt(1, 1) = 1
            snapshotAt(1, 2) = 4
            snapshotAt(1, 3) = 5
            snapshotAt(0, 0) = 2
            snapshotAt(0, 1) = 3
            snapshots(0) = 2
            origin(1) = -1
            origin(0) = 1
            promote(1) = throws.IllegalStateException
            destroySnapshot(1) = throws.IllegalStateException
            destroySnapshot(0) = 0
            # and back again
            promote(0) = 3
            snapshotAt(0, 0) = 1
            snapshotAt(0, 1) = 2
            snapshotAt(0, 2) = 3
            snapshotAt(1, 0) = 4
            origin(0) = -1
            origin(1) = 1
            """);
    }

    private static void promoteChain() {
        Run.of("promise 24, a clone of a clone", """
            write(0, 0, 0, 1) = 0
            snapshot(0) = 0
            makeClone(0) = 1
            write(1, 0, 0, 2) = 32
            snapshot(1) = 1
            snapshot(1) = 2
            makeClone(1) = 2
            makeClone(0) = 3
            # it gets the origin that the other dataset had
            promote(2) = 1
            origin(2) = 0
            origin(1) = 1
            origin(3) = 0
            origin(0) = -1
            snapshots(1) = 1
            snapshots(2) = 1
            snapshots(0) = 1
            promote(2) = 2
            snapshotAt(2, 0) = 0
            snapshotAt(2, 1) = 1
            origin(2) = -1
            origin(0) = 0
            origin(1) = 1
            origin(3) = 0
            snapshots(0) = 0
            # nothing changed at the places
            read(0, 0, 0) = 1
            read(1, 0, 0) = 2
            read(2, 0, 0) = 2
            references(0) = 3
            references(32) = 4
            destroy(0) = 0
            destroySnapshot(0) = throws.IllegalStateException
            destroy(3) = 0
            destroySnapshot(0) = 1
            """);
    }

    private static void destroy() {
        Run.of("promise 25", """
            destroy(0) = throws.IllegalStateException
            destroy(1) = throws.IndexOutOfBoundsException
            destroy(-1) = throws.IndexOutOfBoundsException
            destroy(6) = throws.IndexOutOfBoundsException
            write(0, 0, 0, 1) = 0
            destroy(0) = throws.IllegalStateException
            read(0, 0, 0) = 1
            snapshot(0) = 0
            destroy(0) = throws.IllegalStateException
            makeClone(0) = 1
            destroy(0) = throws.IllegalStateException
            write(1, 0, 1, 2) = 32
            write(1, 0, 2, 2) = 64
            destroy(1) = 2
            free() = 127
            pending() = 0
            datasets() = 1
            destroy(1) = throws.IndexOutOfBoundsException
            # it is no clone any more
            destroySnapshot(0) = 0
            """);
    }

    private static void destroyFirst() {
        Run.of("promise 25, the dataset 0", """
            write(0, 0, 0, 1) = 0
            snapshot(0) = 0
            write(0, 0, 1, 1) = 32
            makeClone(0) = 1
            promote(1) = 1
            destroy(1) = throws.IllegalStateException
            destroy(0) = 1
            read(0, 0, 0) = throws.IndexOutOfBoundsException
            datasets() = 1
            destroySnapshot(0) = 0
            destroy(1) = throws.IllegalStateException
            # the lowest free number is 0
            snapshot(1) = 1
            makeClone(1) = 0
            origin(0) = 1
            read(0, 0, 0) = 1
            blockAt(0, 0, 1) = -1
            """);
    }

    private static void destroyFrees() {
        Run.of("promise 25, what becomes of the blocks", """
            write(0, 0, 0, 1) = 0
            snapshot(0) = 0
            makeClone(0) = 1
            write(1, 0, 1, 2) = 32
            reflink(1, 0, 1, 3, 0, 1) = 1
            commit() = 2
            write(1, 0, 2, 2) = 64
            destroy(1) = 2
            pending() = 1
            free() = 126
            references(32) = 0
            commit() = 3
            free() = 127
            """);
    }

    private static void referenced() {
        Run.of("promise 26", """
            referenced(0) = 0
            write(0, 0, 0, 1) = 0
            write(0, 7, 15, 1) = 32
            referenced(0) = 2
            reflink(0, 0, 0, 1, 0, 16) = 1
            referenced(0) = 2
            snapshot(0) = 0
            write(0, 0, 0, 2) = 64
            referenced(0) = 3
            makeClone(0) = 1
            referenced(1) = 2
            punch(0, 0, 0, 1) = 1
            referenced(0) = 2
            referenced(2) = throws.IndexOutOfBoundsException
            referenced(-1) = throws.IndexOutOfBoundsException
            referenced(6) = throws.IndexOutOfBoundsException
            destroy(1) = 0
            referenced(1) = throws.IndexOutOfBoundsException
            """);
        Run.of("promise 26, a full dataset", """
            write(0, 0..7, 0..15, 3) = any
            referenced(0) = 128
            unique(0) = 128
            """);
    }

    private static void unique() {
        Run.of("promise 27", """
            unique(0) = 0
            write(0, 0, 0, 1) = 0
            write(0, 0, 1, 1) = 32
            reflink(0, 0, 0, 5, 0, 1) = 1
            unique(0) = 2
            snapshot(0) = 0
            unique(0) = 0
            write(0, 0, 1, 2) = 64
            reflink(0, 0, 1, 5, 1, 1) = 1
            unique(0) = 1
            makeClone(0) = 1
            write(1, 2, 2, 2) = 96
            unique(1) = 1
            unique(0) = 1
            destroySnapshot(0) = throws.IllegalStateException
            promote(1) = 1
            destroy(0) = 1
            destroySnapshot(0) = 0
            unique(1) = 3
            unique(0) = throws.IndexOutOfBoundsException
            unique(2) = throws.IndexOutOfBoundsException
            unique(-1) = throws.IndexOutOfBoundsException
            """);
        Run.of("promise 27, datasets without a common snapshot", """
            write(0, 0, 0, 1) = 0
            snapshot(0) = 0
            makeClone(0) = 1
            makeClone(0) = 2
            write(1, 0, 0, 2) = 32
            unique(1) = 1
            unique(2) = 0
            unique(0) = 0
            """);
    }

    private static void uniqueOfSnapshot() {
        Run.of("promise 28", """
            uniqueOfSnapshot(0) = throws.IndexOutOfBoundsException
            write(0, 0, 0, 1) = 0
            write(0, 0, 1, 1) = 32
            reflink(0, 0, 0, 5, 0, 1) = 1
            snapshot(0) = 0
            uniqueOfSnapshot(0) = 0
            write(0, 0, 1, 2) = 64
            uniqueOfSnapshot(0) = 1
            punch(0, 0, 0, 1) = 1
            uniqueOfSnapshot(0) = 1
            punch(0, 5, 0, 1) = 1
            uniqueOfSnapshot(0) = 2
            makeClone(0) = 1
            uniqueOfSnapshot(0) = 0
            punch(1, 0, 0, 16) = 2
            punch(1, 5, 0, 16) = 1
            uniqueOfSnapshot(0) = 2
            snapshot(1) = 1
            uniqueOfSnapshot(1) = 0
            snapshot(0) = 2
            snapshot(0) = 3
            punch(0, 0, 0, 16) = 1
            uniqueOfSnapshot(2) = 0
            destroySnapshot(3) = 0
            uniqueOfSnapshot(2) = 1
            uniqueOfSnapshot(3) = throws.IndexOutOfBoundsException
            uniqueOfSnapshot(-1) = throws.IndexOutOfBoundsException
            """);
    }

    private static void newer() {
        Run.of("promise 29", """
            newer(0, -2147483648) = 0
            write(0, 0, 0, 1) = 0
            write(0, 0, 1, 1) = 32
            reflink(0, 0, 0, 5, 0, 1) = 1
            newer(0, 0) = 3
            newer(0, 1) = 0
            commit() = 1
            write(0, 0, 1, 2) = 64
            newer(0, 0) = 3
            newer(0, 1) = 1
            newer(0, 2) = 0
            newer(0, -1) = 3
            newer(0, -2147483648) = 3
            newer(0, 2147483647) = 0
            punch(0, 5, 0, 1) = 1
            newer(0, 0) = 2
            newer(1, 0) = throws.IndexOutOfBoundsException
            newer(-1, 0) = throws.IndexOutOfBoundsException
            newer(6, 0) = throws.IndexOutOfBoundsException
            snapshot(0) = 0
            makeClone(0) = 1
            write(1, 3, 3, 3) = 32
            newer(1, 2) = 1
            newer(1, 1) = 2
            newer(0, 2) = 0
            """);
    }
}
