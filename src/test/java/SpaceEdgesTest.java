/** The sentences of the promises 30 to 39 that name a boundary; RefusedTest has what they refuse. */
public final class SpaceEdgesTest {
    /**
     * Behind these calls every second block of the region 0 is allocated, from the block 0 on,
     * and its log has 16 entries. The place with the block b is the index 4 * (b % 4) of the file
     * b / 4. All other regions are full.
     */
    private static final String SIXTEEN_RUNS = Run.filled() + """
        punch(0, 0..7, 4, 1) = 1
        punch(0, 0..7, 12, 1) = 1
        commit() = 1
        """;

    /**
     * Then those from the block 14 on move on by one. As the lowest free block is the next one
     * always, the seven below are taken in between, and let go in the same transaction.
     */
    private static final String THIRTY_FOUR_ENTRIES = SIXTEEN_RUNS + """
        write(0, 0, 4, 5) = 1
        write(0, 1, 4, 5) = 3
        write(0, 2, 4, 5) = 5
        write(0, 3, 4, 5) = 7
        write(0, 4, 4, 5) = 9
        write(0, 5, 4, 5) = 11
        write(0, 6, 4, 5) = 13
        write(0, 3, 8, 5) = 15
        write(0, 4, 0, 5) = 17
        write(0, 4, 8, 5) = 19
        write(0, 5, 0, 5) = 21
        write(0, 5, 8, 5) = 23
        write(0, 6, 0, 5) = 25
        write(0, 6, 8, 5) = 27
        write(0, 7, 0, 5) = 29
        write(0, 7, 8, 5) = 31
        punch(0, 0..6, 4, 1) = 1
        commit() = 2
        """;

    public static void main(String[] args) {
        birth();
        references();
        free();
        pending();
        freeIn();
        emptyLogs();
        logsAreWrittenAtCommits();
        blocksThatCameAndWent();
        blocksThatASnapshotKeeps();
        runsOfARegion();
        runsAreAsLongAsPossible();
        allocatedAheadOfFreed();
        logsComeBack();
        noRunsLeft();
        oneRunLeft();
        twoRunsLeft();
        sixteenRunsLeft();
        moreThanSixteenRunsAllow();
        everyBlockOfARegionChanges();
        replay();
        condensed();
        Run.end();
    }

    private static void birth() {
        Run.of("promise 30: block 0 to 127, if it is allocated", Run.filled() + """
            commit() = 1
            commit() = 2
            birth(0) = 1
            birth(127) = 1
            birth(128) = throws.IndexOutOfBoundsException
            birth(-1) = throws.IndexOutOfBoundsException
            punch(0, 0, 0, 1) = 1
            punch(0, 7, 15, 1) = 1
            # pending, then free, then allocated again
            birth(0) = throws.IllegalStateException
            birth(127) = throws.IllegalStateException
            commit() = 3
            birth(0) = throws.IllegalStateException
            birth(127) = throws.IllegalStateException
            write(0, 0, 0, 5) = 0
            write(0, 7, 15, 5) = 127
            birth(0) = 4
            birth(127) = 4
            crash() = 4
            birth(0) = throws.IllegalStateException
            birth(1) = 1
            """);
    }

    private static void references() {
        Run.of("promise 31: block 0 to 127, whether it is allocated or not", Run.filled() + """
            references(0) = 1
            references(127) = 1
            references(128) = throws.IndexOutOfBoundsException
            references(-1) = throws.IndexOutOfBoundsException
            commit() = 1
            punch(0, 0, 0, 1) = 1
            punch(0, 7, 15, 1) = 1
            # pending, then free
            references(0) = 0
            references(127) = 0
            commit() = 2
            references(0) = 0
            references(127) = 0
            crash() = 3
            references(0) = 0
            references(1) = 1
            """);
        Run.of("promise 31: a snapshot and a clone have each place once more", """
            write(0, 0, 0, 5) = 0
            reflink(0, 0, 0, 7, 15, 1) = 1
            references(0) = 2
            snapshot(0) = 0
            references(0) = 4
            makeClone(0) = 1
            references(0) = 6
            snapshot(1) = 1
            references(0) = 8
            rollback(1, 1) = 0
            references(0) = 8
            promote(1) = 2
            references(0) = 8
            destroy(0) = 0
            references(0) = 6
            destroySnapshot(0) = 0
            references(0) = 4
            """);
    }

    private static void free() {
        Run.of("promise 32: from 128 to 0", """
            free() = 128
            write(0, 0, 0, 5) = 0
            free() = 127
            write(0, 0..6, 0..15, 5) = any
            write(0, 7, 0..14, 5) = any
            free() = 1
            write(0, 7, 15, 5) = 127
            free() = 0
            punch(0, 7, 15, 1) = 1
            free() = 1
            punch(0, 0..7, 0, 16) = any
            free() = 128
            """);
    }

    private static void pending() {
        Run.of("promise 33: from 0 to 128", Run.filled() + """
            pending() = 0
            commit() = 1
            pending() = 0
            punch(0, 0, 0, 1) = 1
            pending() = 1
            punch(0, 0, 1, 15) = 15
            punch(0, 1..6, 0, 16) = 16
            punch(0, 7, 0, 15) = 15
            pending() = 127
            punch(0, 7, 15, 1) = 1
            pending() = 128
            free() = 0
            commit() = 2
            pending() = 0
            """);
        Run.of("promise 33: what the open transaction made is never pending", """
            commit() = 1
            write(0, 0, 0..15, 5) = any
            reflink(0, 0, 8, 0, 0, 8) = 8
            punch(0, 0, 0, 16) = 16
            pending() = 0
            free() = 128
            """);
    }

    private static void freeIn() {
        Run.of("promise 34: region 0 to 3, from 32 to 0", """
            freeIn(0..3) = 32
            freeIn(4) = throws.IndexOutOfBoundsException
            freeIn(-1) = throws.IndexOutOfBoundsException
            write(0, 0..7, 0..14, 5) = any
            freeIn(0..3) = 2
            write(0, 0..6, 15, 5) = any
            freeIn(0..2) = 0
            freeIn(3) = 1
            write(0, 7, 15, 5) = 127
            freeIn(0..3) = 0
            """);
    }

    private static void emptyLogs() {
        Run.of("At the beginning nothing is allocated, and the logs are empty", """
            logEntries(0..3) = 0
            runAt(0..3, 0) = throws.IndexOutOfBoundsException
            allocates(0..3, 0) = throws.IndexOutOfBoundsException
            replay(0..3) = 0
            condensed() = 0
            # and a commit without a change adds nothing
            commit() = 1
            logEntries(0..3) = 0
            snapshot(0) = 0
            logEntries(0..3) = 0
            condensed() = 0
            """);
    }

    private static void logsAreWrittenAtCommits() {
        Run.of("promise 35: at a commit, and not ahead of it", """
            write(0, 0, 0, 5) = 0
            logEntries(0) = 0
            replay(0) = 0
            snapshot(0) = 0
            # a snapshot commits
            logEntries(0) = 1
            logEntries(1..3) = 0
            write(0, 0, 0, 6) = 32
            logEntries(1) = 0
            commit() = 2
            logEntries(0..1) = 1
            logEntries(2..3) = 0
            logEntries(4) = throws.IndexOutOfBoundsException
            logEntries(-1) = throws.IndexOutOfBoundsException
            commit() = 3
            logEntries(0..1) = 1
            """);
    }

    private static void blocksThatCameAndWent() {
        Run.of("that are allocated, and were not at the commit before", """
            # what came and went within a transaction is not logged
            write(0, 0, 0, 5) = 0
            punch(0, 0, 0, 1) = 1
            write(0, 0, 0..1, 5) = any
            punch(0, 0, 1, 1) = 1
            commit() = 1
            logEntries(0) = 1
            logEntries(1) = 0
            runAt(0, 0) = 1
            # what is written in another block is logged in both regions
            write(0, 0, 0, 6) = 32
            commit() = 2
            logEntries(0) = 2
            allocates(0, 1) = false
            runAt(0, 1) = 1
            logEntries(1) = 1
            allocates(1, 0) = true
            # a crash leaves nothing to log
            write(0, 0, 0, 7) = 0
            crash() = 3
            commit() = 3
            logEntries(0) = 2
            logEntries(1) = 1
            """);
    }

    private static void blocksThatASnapshotKeeps() {
        Run.of("those that are not allocated, but were so at the commit before", """
            write(0, 0, 0, 5) = 0
            snapshot(0) = 0
            punch(0, 0, 0, 1) = 1
            commit() = 2
            # the snapshot has it
            logEntries(0) = 1
            replay(0) = 1
            destroySnapshot(0) = 1
            logEntries(0) = 1
            replay(0) = 1
            commit() = 3
            logEntries(0) = 2
            allocates(0, 1) = false
            replay(0) = 0
            """);
    }

    private static void runsOfARegion() {
        Run.of("promise 36: 100 times its first block, plus how many it has: a whole region",
            Run.filled() + """
            commit() = 1
            logEntries(0..3) = 1
            runAt(0, 0) = 32
            runAt(1, 0) = 3232
            runAt(2, 0) = 6432
            runAt(3, 0) = 9632
            allocates(0..3, 0) = true
            runAt(0..3, 1) = throws.IndexOutOfBoundsException
            runAt(0..3, -1) = throws.IndexOutOfBoundsException
            allocates(0..3, 1) = throws.IndexOutOfBoundsException
            allocates(0..3, -1) = throws.IndexOutOfBoundsException
            runAt(4, 0) = throws.IndexOutOfBoundsException
            runAt(-1, 0) = throws.IndexOutOfBoundsException
            allocates(4, 0) = throws.IndexOutOfBoundsException
            allocates(-1, 0) = throws.IndexOutOfBoundsException
            # the last block of each region: those of 31 do not go on with 32
            punch(0, 7, 12, 4) = 4
            punch(0, 0, 0, 4) = 4
            commit() = 2
            runAt(0, 1) = 1
            runAt(0, 2) = 3101
            runAt(1, 1) = 3201
            runAt(1, 2) = 6301
            runAt(2, 1) = 6401
            runAt(2, 2) = 9501
            runAt(3, 1) = 9601
            runAt(3, 2) = 12701
            allocates(0..3, 1..2) = false
            logEntries(0..3) = 3
            """);
    }

    private static void runsAreAsLongAsPossible() {
        Run.of("in runs that are as long as possible, from the lowest one on", """
            # the blocks 0 and 1, at places that do not follow each other
            write(0, 0, 0..6, 5) = any
            punch(0, 0, 4, 1) = 1
            punch(0, 0, 1, 3) = 3
            punch(0, 0, 5, 2) = 2
            write(0, 0, 1, 5) = 32
            write(0, 0, 2, 5) = 64
            write(0, 0, 3, 5) = 96
            write(0, 0, 4, 5) = 1
            commit() = 1
            logEntries(0) = 1
            runAt(0, 0) = 2
            # a run that goes on with blocks of another commit is one of its own
            write(0, 1, 0..2, 5) = any
            write(0, 1, 3, 5) = 2
            commit() = 2
            logEntries(0) = 2
            runAt(0, 1) = 201
            runAt(1, 0) = 3201
            runAt(1, 1) = 3301
            replay(0) = 3
            """);
        Run.of("then those that are not allocated any more, likewise", Run.filled() + """
            commit() = 1
            # the blocks 1, 2 and 3, which are not punched in their order, and 5
            punch(0, 0, 12, 1) = 1
            punch(0, 1, 4, 1) = 1
            punch(0, 0, 4, 1) = 1
            punch(0, 0, 8, 1) = 1
            commit() = 2
            logEntries(0) = 3
            runAt(0, 1) = 103
            runAt(0, 2) = 501
            allocates(0, 1..2) = false
            replay(0) = 28
            """);
    }

    private static void allocatedAheadOfFreed() {
        Run.of("logged as allocated, then as freed, whatever is lower", """
            write(0, 0, 0..8, 5) = any
            punch(0, 0, 4, 1) = 1
            commit() = 1
            # 0 and 2 are allocated, 1 is free
            logEntries(0) = 2
            runAt(0, 0) = 1
            runAt(0, 1) = 201
            punch(0, 0, 0, 1) = 1
            write(0, 1, 0, 5) = 1
            commit() = 2
            runAt(0, 2) = 101
            allocates(0, 2) = true
            runAt(0, 3) = 1
            allocates(0, 3) = false
            logEntries(0) = 4
            replay(0) = 2
            """);
    }

    private static void logsComeBack() {
        Run.of("A crash brings back the space maps, also those that were condensed", """
            write(0, 0, 0, 5) = 0
            commit() = 1
            punch(0, 0, 0, 1) = 1
            commit() = 2
            write(0, 0, 0, 5) = 0
            commit() = 3
            punch(0, 0, 0, 1) = 1
            crash() = 4
            logEntries(0) = 3
            allocates(0, 2) = true
            runAt(0, 2) = 1
            condensed() = 0
            punch(0, 0, 0, 1) = 1
            commit() = 4
            crash() = 5
            logEntries(0) = 0
            condensed() = 1
            """);
    }

    private static void noRunsLeft() {
        Run.of("2 more than twice the number of runs: 2 entries, and no run", """
            write(0, 0, 0, 5) = 0
            commit() = 1
            punch(0, 0, 0, 1) = 1
            commit() = 2
            logEntries(0) = 2
            condensed() = 0
            # and they stay as long as nothing is added
            commit() = 3
            logEntries(0) = 2
            """);
        Run.of("more than 2 more than twice the number of runs: 4 entries, and no run", """
            # the blocks 0 and 2
            write(0, 0, 0..8, 5) = any
            punch(0, 0, 1, 7) = 7
            commit() = 1
            logEntries(0) = 2
            punch(0, 0, 0, 1) = 1
            punch(0, 0, 8, 1) = 1
            commit() = 2
            # it has just these runs then
            logEntries(0) = 0
            condensed() = 1
            replay(0) = 0
            runAt(0, 0) = throws.IndexOutOfBoundsException
            """);
        Run.of("more than 2 more than twice the number of runs: 3 entries, and no run", """
            # the blocks 0 and 1, one after the other
            write(0, 0, 0, 5) = 0
            commit() = 1
            write(0, 0, 1..3, 5) = any
            write(0, 0, 4, 5) = 1
            commit() = 2
            logEntries(0) = 2
            punch(0, 0, 0, 1) = 1
            punch(0, 0, 4, 1) = 1
            condensed() = 0
            commit() = 3
            logEntries(0) = 0
            condensed() = 1
            logEntries(1..3) = 1
            """);
    }

    private static void oneRunLeft() {
        Run.of("2 more than twice the number of runs: 4 entries, and 1 run; then 5", """
            write(0, 0, 0..3, 5) = any
            commit() = 1
            write(0, 0, 4, 5) = 1
            commit() = 2
            punch(0, 0, 4, 1) = 1
            commit() = 3
            write(0, 0, 4, 5) = 1
            commit() = 4
            logEntries(0) = 4
            condensed() = 0
            replay(0) = 2
            punch(0, 0, 4, 1) = 1
            commit() = 5
            logEntries(0) = 1
            runAt(0, 0) = 1
            allocates(0, 0) = true
            replay(0) = 1
            condensed() = 1
            """);
    }

    private static void twoRunsLeft() {
        Run.of("2 more than twice the number of runs: 6 entries, and 2 runs; then 7",
            Run.filled() + """
            # leaves the blocks 0, 2 and 3 of the region 0
            punch(0, 0, 4, 1) = 1
            punch(0, 1..7, 0, 1) = 1
            punch(0, 1..7, 4, 1) = 1
            punch(0, 1..7, 8, 1) = 1
            punch(0, 1..7, 12, 1) = 1
            commit() = 1
            logEntries(0) = 2
            # frees the block 3, and allocates it again, twice
            punch(0, 0, 12, 1) = 1
            commit() = 2
            write(0, 0, 4, 5) = 1
            write(0, 0, 12, 5) = 3
            punch(0, 0, 4, 1) = 1
            commit() = 3
            punch(0, 0, 12, 1) = 1
            commit() = 4
            logEntries(0) = 5
            write(0, 0, 4, 5) = 1
            write(0, 0, 12, 5) = 3
            punch(0, 0, 4, 1) = 1
            commit() = 5
            logEntries(0) = 6
            condensed() = 0
            runAt(0, 5) = 301
            allocates(0, 5) = true
            replay(0) = 3
            punch(0, 0, 12, 1) = 1
            commit() = 6
            logEntries(0) = 2
            condensed() = 1
            runAt(0, 0) = 1
            runAt(0, 1) = 201
            allocates(0, 0..1) = true
            replay(0) = 2
            """);
    }

    private static void sixteenRunsLeft() {
        Run.of("2 more than twice the number of runs: 34 entries, and 16 runs", THIRTY_FOUR_ENTRIES + """
            logEntries(0) = 34
            condensed() = 0
            replay(0) = 16
            runAt(0, 0) = 1
            runAt(0, 15) = 3001
            runAt(0, 16) = 1501
            runAt(0, 24) = 3101
            runAt(0, 25) = 1401
            runAt(0, 33) = 3001
            allocates(0, 0..24) = true
            allocates(0, 25..33) = false
            runAt(0, 34) = throws.IndexOutOfBoundsException
            allocates(0, 34) = throws.IndexOutOfBoundsException
            commit() = 3
            logEntries(0) = 34
            punch(0, 7, 8, 1) = 1
            crash() = 4
            logEntries(0) = 34
            replay(0) = 16
            """);
    }

    private static void moreThanSixteenRunsAllow() {
        Run.of("more than 2 more than twice the number of runs: 35 entries, and 16 runs",
            THIRTY_FOUR_ENTRIES + """
            # the block 13 makes the run of the block 12 longer
            write(0, 0..6, 4, 5) = any
            blockAt(0, 6, 4) = 13
            punch(0, 0..5, 4, 1) = 1
            commit() = 3
            condensed() = 1
            logEntries(0) = 16
            runAt(0, 0) = 1
            runAt(0, 5) = 1001
            runAt(0, 6) = 1202
            runAt(0, 7) = 1501
            runAt(0, 15) = 3101
            runAt(0, 16) = throws.IndexOutOfBoundsException
            allocates(0, 0..15) = true
            replay(0) = 17
            """);
    }

    private static void everyBlockOfARegionChanges() {
        Run.of("every second block of a region is freed, and every other one allocated",
            SIXTEEN_RUNS + """
            logEntries(0) = 16
            write(0, 0..7, 0, 5) = any
            write(0, 0..7, 8, 5) = any
            freeIn(0) = 0
            pending() = 16
            commit() = 2
            # 16 more entries each: 48 against 16 runs
            logEntries(0) = 16
            condensed() = 1
            runAt(0, 0) = 101
            runAt(0, 15) = 3101
            allocates(0, 0..15) = true
            replay(0) = 16
            freeIn(0) = 16
            # and back again, and so the log is condensed again
            write(0, 0..7, 0, 5) = any
            write(0, 0..7, 8, 5) = any
            commit() = 3
            condensed() = 2
            logEntries(0) = 16
            runAt(0, 0) = 1
            runAt(0, 15) = 3001
            logEntries(1..3) = 1
            """);
        Run.of("a whole region is freed, and allocated again", Run.filled() + """
            commit() = 1
            punch(0, 0..7, 0, 16) = 16
            commit() = 2
            # 2 entries, and no run
            logEntries(0..3) = 2
            runAt(3, 1) = 9632
            allocates(3, 1) = false
            replay(0..3) = 0
            write(0, 0..7, 0..15, 5) = any
            commit() = 3
            # 3 entries, and 1 run
            logEntries(0..3) = 3
            condensed() = 0
            punch(0, 0..7, 0, 16) = 16
            commit() = 4
            logEntries(0..3) = 0
            condensed() = 4
            """);
    }

    private static void replay() {
        Run.of("promise 38: from its first entry on, from no block to 32", """
            replay(0..3) = 0
            replay(4) = throws.IndexOutOfBoundsException
            replay(-1) = throws.IndexOutOfBoundsException
            write(0, 0..7, 0..15, 5) = any
            replay(0..3) = 0
            commit() = 1
            replay(0..3) = 32
            # 31 and 63, 64 and 96
            punch(0, 7, 12, 2) = 2
            punch(0, 0, 2, 2) = 2
            replay(0..3) = 32
            commit() = 2
            replay(0..3) = 31
            # a block that is allocated, freed and allocated again is allocated
            write(0, 0, 2, 5) = 31
            commit() = 3
            replay(0) = 32
            logEntries(0) = 3
            crash() = 4
            replay(0) = 32
            replay(0) = 32
            """);
    }

    private static void condensed() {
        Run.of("promise 39: how often a log was condensed: none, and then four at one commit", """
            write(0, 0, 0..3, 5) = any
            commit() = 1
            punch(0, 0, 0, 4) = 4
            commit() = 2
            write(0, 0, 0..3, 5) = any
            commit() = 3
            condensed() = 0
            punch(0, 0, 0, 4) = 4
            condensed() = 0
            snapshot(0) = 0
            condensed() = 4
            logEntries(0..3) = 0
            # one of them begins anew
            write(0, 0, 0, 5) = 0
            commit() = 5
            punch(0, 0, 0, 1) = 1
            commit() = 6
            write(0, 0, 0, 5) = 0
            commit() = 7
            logEntries(0) = 3
            punch(0, 0, 0, 1) = 1
            commit() = 8
            condensed() = 5
            commit() = 9
            crash() = 10
            condensed() = 5
            """);
    }
}
