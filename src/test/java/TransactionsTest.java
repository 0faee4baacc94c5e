/** Promises 8 to 10. */
public final class TransactionsTest {
    public static void main(String[] args) {
        commit();
        crash();
        crashBringsAllBack();
        crashAtTheBeginning();
        transaction();
        Run.end();
    }

    private static void commit() {
        Run.of("promise 8", """
            commit() = 1
            commit() = 2
            write(0, 0, 0, 5) = 0
            birth(0) = 3
            logEntries(0) = 0
            commit() = 3
            logEntries(0) = 1
            write(0, 0, 0, 6) = 32
            pending() = 1
            free() = 126
            commit() = 4
            pending() = 0
            free() = 127
            transaction() = 5
            crash() = 5
            read(0, 0, 0) = 6
            """);
    }

    private static void crash() {
        Run.of("promise 9", """
            write(0, 0, 0, 5) = 0
            commit() = 1
            write(0, 0, 0, 6) = 32
            write(0, 1, 1, 6) = 64
            pending() = 1
            crash() = 2
            read(0, 0, 0) = 5
            blockAt(0, 1, 1) = -1
            pending() = 0
            free() = 127
            references(0) = 1
            references(32) = 0
            birth(0) = 1
            birth(32) = throws.IllegalStateException
            # the freed block has its value again, though nothing overwrote it
            punch(0, 0, 0, 1) = 1
            crash() = 2
            read(0, 0, 0) = 5
            crash() = 2
            # the same again, behind a crash
            write(0, 0, 0, 7) = 32
            birth(32) = 2
            commit() = 2
            crash() = 3
            read(0, 0, 0) = 7
            """);
    }

    private static void crashBringsAllBack() {
        Run.of("promise 9, all of it", """
            write(0, 0, 0, 5) = 0
            snapshot(0) = 0
            snapshot(0) = 1
            makeClone(0) = 1
            commit() = 3
            write(1, 0, 0, 6) = 32
            promote(1) = 1
            makeClone(1) = 2
            destroySnapshot(1) = throws.IllegalStateException
            destroy(2) = 0
            destroySnapshot(1) = 0
            crash() = 4
            datasets() = 2
            origin(0) = -1
            origin(1) = 0
            snapshots(0) = 2
            snapshots(1) = 0
            snapshotAt(0, 0) = 0
            snapshotAt(0, 1) = 1
            datasetOf(0) = 0
            read(1, 0, 0) = 5
            references(0) = 4
            free() = 127
            rollback(0, 0) = 1
            snapshots(0) = 1
            crash() = 4
            snapshots(0) = 2
            blockInSnapshot(1, 0, 0) = 0
            destroy(1) = 0
            crash() = 4
            origin(1) = 0
            blockAt(1, 0, 0) = 0
            logEntries(0) = 1
            condensed() = 0
            # no number is given again
            snapshot(1) = 2
            snapshots(1) = 1
            """);
    }

    private static void crashAtTheBeginning() {
        Run.of("promise 9, no commit so far", """
            write(0, 0, 0, 5) = 0
            write(0, 0, 1, 5) = 32
            crash() = 1
            free() = 128
            blockAt(0, 0, 0) = -1
            read(0, 0, 1) = 0
            datasets() = 1
            write(0, 0, 1, 5) = 0
            commit() = 1
            runAt(0, 0) = 1
            """);
    }

    private static void transaction() {
        Run.of("promise 10", """
            transaction() = 1
            commit() = 1
            transaction() = 2
            snapshot(0) = 0
            transaction() = 3
            makeClone(0) = 1
            write(0, 0, 0, 1) = 0
            rollback(0, 0) = 0
            destroy(1) = 0
            destroySnapshot(0) = 0
            transaction() = 3
            crash() = 3
            transaction() = 3
            """);
    }
}
