/** Promises 30 to 39. */
public final class SpaceTest {
    public static void main(String[] args) {
        birth();
        references();
        free();
        pending();
        freeIn();
        logEntries();
        runAt();
        runsAreLong();
        fullRegions();
        allocates();
        replay();
        condensed();
        condensedWithRuns();
        noBlockTwiceInACommit();
        Run.end();
    }

    private static void birth() {
        Run.of("promise 30", """
            birth(0..127) = throws.IllegalStateException
            birth(-1) = throws.IndexOutOfBoundsException
            birth(128) = throws.IndexOutOfBoundsException
            write(0, 0, 0, 1) = 0
            birth(0) = 1
            commit() = 1
            commit() = 2
            birth(0) = 1
            write(0, 0, 0, 2) = 32
            birth(32) = 3
            write(0, 0, 0, 3) = 32
            birth(32) = 3
            # pending is not allocated
            birth(0) = throws.IllegalStateException
            commit() = 3
            birth(0) = throws.IllegalStateException
            snapshot(0) = 0
            makeClone(0) = 1
            birth(32) = 3
            punch(0, 0, 0, 1) = 1
            birth(32) = 3
            write(0, 7, 15, 1) = 0
            birth(0) = 5
            write(0, 7, 14, 1) = 64
            write(0, 7, 13, 1) = 96
            birth(96) = 5
            birth(2147483647) = throws.IndexOutOfBoundsException
            birth(-2147483648) = throws.IndexOutOfBoundsException
            """);
        Run.of("promise 30, the last block", """
            write(0, 0..7, 0..15, 1) = any
            birth(0..127) = 1
            birth(128) = throws.IndexOutOfBoundsException
            """);
    }

    private static void references() {
        Run.of("promise 31", """
            references(0..127) = 0
            write(0, 0, 0, 1) = 0
            references(0) = 1
            reflink(0, 0, 0, 2, 3, 1) = 1
            references(0) = 2
            snapshot(0) = 0
            references(0) = 4
            makeClone(0) = 1
            references(0) = 6
            write(1, 0, 0, 2) = 32
            references(0) = 5
            references(32) = 1
            destroy(1) = 1
            references(0) = 4
            references(32) = 0
            destroySnapshot(0) = 0
            references(0) = 2
            punch(0, 0, 0, 16) = 1
            punch(0, 2, 0, 16) = 1
            references(0) = 0
            references(-1) = throws.IndexOutOfBoundsException
            references(128) = throws.IndexOutOfBoundsException
            references(2147483647) = throws.IndexOutOfBoundsException
            """);
    }

    private static void free() {
        Run.of("promise 32", """
            free() = 128
            write(0, 0, 0..4, 1) = any
            free() = 123
            punch(0, 0, 0, 2) = 2
            free() = 125
            commit() = 1
            punch(0, 0, 2, 1) = 1
            free() = 125
            commit() = 2
            free() = 126
            snapshot(0) = 0
            punch(0, 0, 3, 1) = 1
            free() = 126
            commit() = 4
            free() = 126
            """);
    }

    private static void pending() {
        Run.of("promise 33", """
            pending() = 0
            write(0, 0, 0..4, 1) = any
            pending() = 0
            punch(0, 0, 0, 1) = 1
            pending() = 0
            commit() = 1
            punch(0, 0, 1, 1) = 1
            pending() = 1
            write(0, 0, 2, 2) = any
            pending() = 2
            reflink(0, 0, 5, 0, 3, 2) = 2
            pending() = 4
            free() = 123
            crash() = 2
            pending() = 0
            punch(0, 0, 0, 16) = 4
            pending() = 4
            commit() = 2
            pending() = 0
            free() = 128
            """);
    }

    private static void freeIn() {
        Run.of("promise 34", """
            freeIn(0..3) = 32
            write(0, 0, 0..5, 1) = any
            freeIn(0) = 30
            freeIn(1) = 30
            freeIn(2) = 31
            freeIn(3) = 31
            punch(0, 0, 2, 1) = 1
            freeIn(2) = 32
            commit() = 1
            punch(0, 0, 0, 1) = 1
            freeIn(0) = 30
            commit() = 2
            freeIn(0) = 31
            freeIn(-1) = throws.IndexOutOfBoundsException
            freeIn(4) = throws.IndexOutOfBoundsException
            freeIn(2147483647) = throws.IndexOutOfBoundsException
            freeIn(134217728) = throws.IndexOutOfBoundsException
            """);
    }

    private static void logEntries() {
        Run.of("promise 35", """
            logEntries(0..3) = 0
            write(0, 0, 0..4, 1) = any
            logEntries(0..3) = 0
            commit() = 1
            logEntries(0..3) = 1
            # block 0 freed, block 33 allocated
            write(0, 0, 0, 2) = 33
            logEntries(0..3) = 1
            commit() = 2
            logEntries(0) = 2
            logEntries(1) = 2
            logEntries(2) = 1
            commit() = 3
            logEntries(0) = 2
            punch(0, 0, 2, 1) = 1
            crash() = 4
            logEntries(2) = 1
            snapshot(0) = 0
            logEntries(2) = 1
            # the snapshot has the block
            punch(0, 0, 2, 1) = 1
            commit() = 5
            logEntries(2) = 1
            logEntries(-1) = throws.IndexOutOfBoundsException
            logEntries(4) = throws.IndexOutOfBoundsException
            logEntries(-2147483648) = throws.IndexOutOfBoundsException
            """);
    }

    private static void runAt() {
        Run.of("promise 36", """
            runAt(0, 0) = throws.IndexOutOfBoundsException
            write(0, 0, 0..11, 1) = any
            runAt(0, 0) = throws.IndexOutOfBoundsException
            # the regions have 3 blocks each; take the middle one of region 1 out
            punch(0, 0, 5, 1) = 1
            commit() = 1
            runAt(0, 0) = 3
            runAt(1, 0) = 3201
            runAt(1, 1) = 3401
            runAt(2, 0) = 6403
            runAt(3, 0) = 9603
            runAt(0, 1) = throws.IndexOutOfBoundsException
            runAt(1, 2) = throws.IndexOutOfBoundsException
            # free 32 and take 33: region 1 has the most free blocks
            write(0, 0, 1, 2) = 33
            commit() = 2
            # first what is allocated, then what is freed
            runAt(1, 2) = 3301
            runAt(1, 3) = 3201
            runAt(1, 4) = throws.IndexOutOfBoundsException
            runAt(1, -1) = throws.IndexOutOfBoundsException
            runAt(-1, 0) = throws.IndexOutOfBoundsException
            runAt(4, 0) = throws.IndexOutOfBoundsException
            runAt(0, 2147483647) = throws.IndexOutOfBoundsException
            runAt(0, -2147483648) = throws.IndexOutOfBoundsException
            """);
    }

    private static void runsAreLong() {
        Run.of("promise 36, runs from the lowest one on", """
            # file 0 has 0, 32, 64, 96, 1, 33, ... and file 1 has 4, 36, ...
            write(0, 0..1, 0..15, 1) = any
            commit() = 1
            runAt(0, 0) = 8
            runAt(3, 0) = 9608
            # frees 0, 2 and 3, and 7
            punch(0, 0, 0, 1) = 1
            punch(0, 0, 8, 1) = 1
            punch(0, 0, 12, 1) = 1
            punch(0, 1, 12, 1) = 1
            commit() = 2
            logEntries(0) = 4
            runAt(0, 1) = 1
            runAt(0, 2) = 202
            runAt(0, 3) = 701
            allocates(0, 1..3) = false
            replay(0) = 4
            logEntries(1) = 1
            """);
    }

    private static void fullRegions() {
        Run.of("promise 36, whole regions", """
            write(0, 0..7, 0..15, 1) = any
            commit() = 1
            logEntries(0..3) = 1
            runAt(0, 0) = 32
            runAt(1, 0) = 3232
            runAt(2, 0) = 6432
            runAt(3, 0) = 9632
            replay(0..3) = 32
            # the highest block of the region 3, and the lowest one of the region 1
            punch(0, 7, 15, 1) = 1
            punch(0, 0, 1, 1) = 1
            commit() = 2
            runAt(3, 1) = 12701
            runAt(1, 1) = 3201
            replay(3) = 31
            punch(0, 0..7, 0, 16) = any
            commit() = 3
            # 3 entries against 0 runs
            logEntries(3) = 0
            logEntries(1) = 0
            # 2 entries against 0 runs
            logEntries(0) = 2
            logEntries(2) = 2
            runAt(2, 1) = 6432
            allocates(2, 1) = false
            condensed() = 2
            """);
    }

    private static void allocates() {
        Run.of("promise 37", """
            allocates(0, 0) = throws.IndexOutOfBoundsException
            write(0, 0, 0, 1) = 0
            allocates(0, 0) = throws.IndexOutOfBoundsException
            commit() = 1
            allocates(0, 0) = true
            punch(0, 0, 0, 1) = 1
            commit() = 2
            allocates(0, 0) = true
            allocates(0, 1) = false
            allocates(0, 2) = throws.IndexOutOfBoundsException
            allocates(0, -1) = throws.IndexOutOfBoundsException
            allocates(1, 0) = throws.IndexOutOfBoundsException
            allocates(-1, 0) = throws.IndexOutOfBoundsException
            allocates(4, 0) = throws.IndexOutOfBoundsException
            allocates(0, 2147483647) = throws.IndexOutOfBoundsException
            """);
    }

    private static void replay() {
        Run.of("promise 38", """
            replay(0..3) = 0
            write(0, 0, 0..7, 1) = any
            # the log knows nothing of the open transaction
            replay(0) = 0
            commit() = 1
            replay(0..3) = 2
            punch(0, 0, 0, 2) = 2
            replay(0) = 2
            commit() = 2
            replay(0..1) = 1
            replay(2..3) = 2
            write(0, 1, 0, 5) = 0
            commit() = 3
            replay(0) = 2
            crash() = 4
            replay(0) = 2
            logEntries(0) = 3
            replay(-1) = throws.IndexOutOfBoundsException
            replay(4) = throws.IndexOutOfBoundsException
            replay(2147483647) = throws.IndexOutOfBoundsException
            """);
    }

    private static void condensed() {
        Run.of("promise 39", """
            condensed() = 0
            # 0 runs: the third entry is one too many
            write(0, 0, 0, 1) = 0
            commit() = 1
            punch(0, 0, 0, 1) = 1
            commit() = 2
            logEntries(0) = 2
            condensed() = 0
            # 1 run: the fifth entry is one too many
            write(0, 0, 0, 1) = 0
            commit() = 3
            logEntries(0) = 3
            punch(0, 0, 0, 1) = 1
            commit() = 4
            logEntries(0) = 0
            condensed() = 1
            crash() = 5
            condensed() = 1
            """);
        Run.of("promise 39, two logs at one commit", """
            write(0, 0, 0, 1) = 0
            write(0, 0, 1, 1) = 32
            commit() = 1
            punch(0, 0, 0, 2) = 2
            commit() = 2
            write(0, 0, 0, 1) = 0
            write(0, 0, 1, 1) = 32
            commit() = 3
            punch(0, 0, 0, 2) = 2
            condensed() = 0
            commit() = 4
            condensed() = 2
            """);
    }

    private static void condensedWithRuns() {
        Run.of("promise 39, the runs that are left", """
            # region 0 gets the blocks 0 to 3
            write(0, 0, 0..15, 1) = any
            commit() = 1
            # frees 1, so that there are two runs; then the logs may have 6 entries
            punch(0, 0, 4, 1) = 1
            commit() = 2
            logEntries(0) = 2
            write(0, 1, 0, 1) = 1
            commit() = 3
            logEntries(0) = 3
            punch(0, 1, 0, 1) = 1
            commit() = 4
            logEntries(0) = 4
            write(0, 1, 0, 1) = 1
            # 5 entries against 1 run
            commit() = 5
            logEntries(0) = 1
            runAt(0, 0) = 4
            allocates(0, 0) = true
            condensed() = 1
            punch(0, 1, 0, 1) = 1
            commit() = 6
            write(0, 1, 0, 1) = 1
            snapshot(0) = 0
            logEntries(0) = 3
            destroySnapshot(0) = 0
            punch(0, 1, 0, 1) = 1
            commit() = 8
            logEntries(0) = 4
            # frees 0: the run of 2 and 3 is left, and 5 entries are too many
            punch(0, 0, 0, 1) = 1
            condensed() = 1
            commit() = 9
            condensed() = 2
            logEntries(0) = 1
            runAt(0, 0) = 202
            allocates(0, 0) = true
            # 2 entries, for 2 runs; up to 6 stay
            write(0, 1, 0, 1) = 0
            commit() = 10
            logEntries(0) = 2
            write(0, 1, 1, 1) = 1
            commit() = 11
            logEntries(0) = 3
            punch(0, 1, 1, 1) = 1
            commit() = 12
            logEntries(0) = 4
            write(0, 1, 1, 1) = 1
            punch(0, 0, 8, 1) = 1
            commit() = 13
            logEntries(0) = 6
            runAt(0, 4) = 101
            allocates(0, 4) = true
            runAt(0, 5) = 201
            allocates(0, 5) = false
            condensed() = 2
            replay(0) = 3
            write(0, 1, 2, 1) = 2
            commit() = 14
            condensed() = 3
            logEntries(0) = 1
            runAt(0, 0) = 4
            replay(0) = 4
            """);
    }

    private static void noBlockTwiceInACommit() {
        Run.of("promises 35 to 39, what came and went within a transaction", """
            write(0, 0, 0, 1) = 0
            punch(0, 0, 0, 1) = 1
            write(0, 0, 0, 2) = 0
            punch(0, 0, 0, 1) = 1
            commit() = 1
            logEntries(0) = 0
            replay(0) = 0
            condensed() = 0
            """);
    }
}
