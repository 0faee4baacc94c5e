/** The sentences of the document's section "Terms" that name a boundary, each by a run of its own. */
public final class TermsTest {
    public static void main(String[] args) {
        objectsAreApart();
        calls();
        files();
        holes();
        blocks();
        values();
        referencesAsACallLeavesThem();
        lastReference();
        pendingBlocks();
        replacedOrAllocated();
        regionWithTheMostFreeBlocks();
        lowestFreeBlock();
        regions();
        firstTransaction();
        crashes();
        crashesAtTheBeginning();
        crashesBehindSnapshots();
        numbersOfSnapshots();
        ordersOfSnapshots();
        clones();
        Run.end();
    }

    private static void objectsAreApart() {
        Cowmeadow one = new Cowmeadow();
        Cowmeadow other = new Cowmeadow();
        one.write(0, 0, 0, 5);
        one.snapshot(0);
        one.makeClone(0);
        if (other.read(0, 0, 0) != 0 || other.transaction() != 1 || other.datasets() != 1
                || other.snapshots(0) != 0 || other.free() != 128 || other.logEntries(0) != 0) {
            Run.fail("what one object does, another one knows");
        }
    }

    private static void calls() {
        Cowmeadow volume = new Cowmeadow();
        for (int call = 1; call < Run.CALLS_OF_AN_OBJECT; call++) {
            if (volume.commit() != call) {
                Run.fail("the commit " + call + " answered another number");
            }
        }
        if (volume.transaction() != Run.CALLS_OF_AN_OBJECT) {
            Run.fail("the 512th call of an object answered another number than 512");
        }
        Run.of("An object is used for at most 512 calls: the 512th one answers as well", Run.filled() + """
            commit() = 1
            punch(0, 0..7, 0, 16) = 16
            commit() = 2
            write(0, 0, 0, 1..372) = 0
            read(0, 0, 0) = 372
            transaction() = 3
            """);
    }

    private static void files() {
        Run.of("Each dataset has the files 0 to 7, and each file the indexes 0 to 15: each place "
            + "has a block of its own", Run.filled() + """
            read(0, 0, 0) = 1000
            read(0, 0, 15) = 1015
            read(0, 1, 0) = 1016
            read(0, 3, 9) = 1057
            read(0, 7, 0) = 1112
            read(0, 7, 15) = 1127
            blockAt(0, 0, 0) = 0
            blockAt(0, 0, 15) = 99
            blockAt(0, 1, 0) = 4
            blockAt(0, 7, 0) = 28
            blockAt(0, 7, 15) = 127
            references(0..127) = 1
            length(0, 0..7) = 16
            """);
    }

    private static void holes() {
        Run.of("All places of a new dataset are holes", """
            blockAt(0, 0..7, 0..15) = -1
            length(0, 0..7) = 0
            referenced(0) = 0
            """);
        Run.of("a hole reads as 0", """
            read(0, 0..7, 0..15) = 0
            # as a block may do, which is no hole
            write(0, 4, 4, 0) = 0
            read(0, 4, 4) = 0
            blockAt(0, 4, 4) = 0
            length(0, 4) = 5
            punch(0, 4, 4, 1) = 1
            read(0, 4, 4) = 0
            blockAt(0, 4, 4) = -1
            # and so it is in a snapshot, also where it had a value
            write(0, 4, 4, 9) = 0
            snapshot(0) = 0
            readSnapshot(0, 4, 3) = 0
            blockInSnapshot(0, 4, 3) = -1
            punch(0, 4, 4, 1) = 1
            snapshot(0) = 1
            readSnapshot(1, 4, 4) = 0
            blockInSnapshot(1, 4, 4) = -1
            """);
    }

    private static void blocks() {
        Run.of("The volume has the blocks 0 to 127: none is allocated at the beginning", """
            birth(0..127) = throws.IllegalStateException
            references(0..127) = 0
            free() = 128
            """);
        Run.of("The volume has the blocks 0 to 127: all can be allocated", Run.filled() + """
            birth(0..127) = 1
            references(0..127) = 1
            free() = 0
            pending() = 0
            """);
        Run.of("A block with at least one reference is allocated, its last one a snapshot's", """
            write(0, 0, 0, 5) = 0
            snapshot(0) = 0
            punch(0, 0, 0, 1) = 1
            references(0) = 1
            birth(0) = 1
            free() = 127
            pending() = 0
            commit() = 2
            birth(0) = 1
            free() = 127
            readSnapshot(0, 0, 0) = 5
            destroySnapshot(0) = 1
            references(0) = 0
            birth(0) = throws.IllegalStateException
            """);
        Run.of("the most references a block can have: at all places of 6 datasets and 12 snapshots", """
            write(0, 0, 0, 5) = 0
            reflink(0, 0, 0, 0, 1, 1) = 1
            reflink(0, 0, 0, 0, 2, 2) = 2
            reflink(0, 0, 0, 0, 4, 4) = 4
            reflink(0, 0, 0, 0, 8, 8) = 8
            reflink(0, 0, 0, 1..7, 0, 16) = 16
            references(0) = 128
            snapshot(0) = 0
            makeClone(0) = 1
            makeClone(0) = 2
            makeClone(0) = 3
            makeClone(0) = 4
            makeClone(0) = 5
            snapshot(0) = 1
            snapshot(1) = 2
            snapshot(2) = 3
            snapshot(3) = 4
            snapshot(4) = 5
            snapshot(5) = 6
            snapshot(0) = 7
            snapshot(1) = 8
            snapshot(2) = 9
            snapshot(3) = 10
            snapshot(4) = 11
            references(0) = 2304
            referenced(0..5) = 1
            unique(0..5) = 0
            uniqueOfSnapshot(0..11) = 0
            free() = 127
            length(5, 7) = 16
            """);
    }

    private static void values() {
        Run.of("An allocated block has a value, which is any int", """
            write(0, 0, 0, -2147483648) = 0
            write(0, 0, 1, 2147483647) = 32
            write(0, 0, 2, 0) = 64
            write(0, 0, 3, -1) = 96
            snapshot(0) = 0
            read(0, 0, 0) = -2147483648
            read(0, 0, 1) = 2147483647
            read(0, 0, 2) = 0
            read(0, 0, 3) = -1
            readSnapshot(0, 0, 0) = -2147483648
            readSnapshot(0, 0, 1) = 2147483647
            readSnapshot(0, 0, 2) = 0
            readSnapshot(0, 0, 3) = -1
            """);
    }

    private static void referencesAsACallLeavesThem() {
        Run.of("References are counted as a call leaves them, not within it: reflink", """
            write(0, 0, 0, 10) = 0
            write(0, 0, 1, 11) = 32
            commit() = 1
            # 32 goes from the place 1, which gets another block first, to the place 2
            reflink(0, 0, 0, 0, 1, 2) = 2
            pending() = 0
            references(0) = 2
            references(32) = 1
            punch(0, 0, 0, 1) = 1
            # and 0 goes from the place 1 to the place 0
            reflink(0, 0, 1, 0, 0, 2) = 2
            pending() = 0
            blockAt(0, 0, 0) = 0
            blockAt(0, 0, 1) = 32
            blockAt(0, 0, 2) = 32
            # the last reference to 0 is overwritten, and not put anywhere else
            reflink(0, 0, 1, 0, 0, 2) = 1
            pending() = 1
            references(0) = 0
            references(32) = 3
            """);
        Run.of("References are counted as a call leaves them, not within it: rollback", """
            write(0, 0, 0, 10) = 0
            snapshot(0) = 0
            snapshot(0) = 1
            punch(0, 0, 0, 1) = 1
            references(0) = 2
            # the dataset has it again, and a snapshot has it no more
            rollback(0, 0) = 1
            references(0) = 2
            pending() = 0
            free() = 127
            birth(0) = 1
            """);
        Run.of("References are counted as a call leaves them, not within it: a whole file", """
            write(0, 0, 0..15, 10) = any
            commit() = 1
            reflink(0, 0, 0, 1, 0, 16) = 16
            punch(0, 0, 0, 16) = 16
            pending() = 0
            reflink(0, 1, 0, 0, 0, 16) = 16
            reflink(0, 2, 0, 1, 0, 16) = 16
            reflink(0, 0, 1, 0, 0, 15) = 15
            pending() = 1
            free() = 112
            references(0) = 0
            # the place 15 gave its block to the place 14, and has it still
            references(99) = 2
            """);
    }

    private static void lastReference() {
        Run.of("it is free at once if it was born in the open transaction", """
            commit() = 1
            write(0, 0, 0, 5) = 0
            birth(0) = 2
            punch(0, 0, 0, 1) = 1
            free() = 128
            pending() = 0
            birth(0) = throws.IllegalStateException
            write(0, 3, 3, 6) = 0
            """);
        Run.of("otherwise it is pending until the next commit, and free then", """
            write(0, 0, 0, 5) = 0
            commit() = 1
            punch(0, 0, 0, 1) = 1
            free() = 127
            pending() = 1
            freeIn(0) = 31
            # of the regions with 32 free blocks each, and not the region 0
            write(0, 0, 0, 6) = 32
            commit() = 2
            pending() = 0
            freeIn(0) = 32
            freeIn(1) = 31
            write(0, 0, 1, 7) = 0
            """);
        Run.of("otherwise it is pending, also if it was born in the transaction just before", """
            commit() = 1
            write(0, 0, 0, 5) = 0
            commit() = 2
            write(0, 0, 0, 5) = 32
            pending() = 1
            punch(0, 0, 0, 1) = 1
            pending() = 1
            free() = 127
            """);
        Run.of("a snapshot that is taken frees what was pending, as it commits", """
            write(0, 0, 0, 5) = 0
            commit() = 1
            punch(0, 0, 0, 1) = 1
            pending() = 1
            snapshot(0) = 0
            pending() = 0
            free() = 128
            """);
    }

    private static void pendingBlocks() {
        Run.of("Pending blocks are neither allocated nor free, and all of them may be pending",
            Run.filled() + """
            commit() = 1
            punch(0, 0..7, 0, 16) = 16
            pending() = 128
            free() = 0
            freeIn(0..3) = 0
            references(0) = 0
            references(127) = 0
            birth(0) = throws.IllegalStateException
            birth(127) = throws.IllegalStateException
            referenced(0) = 0
            write(0, 0, 0, 5) = throws.IllegalStateException
            # the logs tell of the latest commit still
            replay(0..3) = 32
            commit() = 2
            pending() = 0
            free() = 128
            freeIn(0..3) = 32
            replay(0..3) = 0
            write(0, 0, 0, 5) = 0
            """);
        Run.of("a crash makes the pending blocks allocated again", Run.filled() + """
            commit() = 1
            punch(0, 0..7, 0, 16) = 16
            crash() = 2
            pending() = 0
            free() = 0
            birth(0..127) = 1
            references(0..127) = 1
            read(0, 0, 0) = 1000
            read(0, 7, 15) = 1127
            """);
    }

    private static void replacedOrAllocated() {
        Run.of("If the block at a place was born in the open transaction and has no other "
            + "reference, its value is replaced", """
            write(0, 0, 0, 5) = 0
            write(0, 0, 0, 6) = 0
            free() = 127
            read(0, 0, 0) = 6
            birth(0) = 1
            """);
        Run.of("Otherwise a free block is allocated: it was born in the transaction before", """
            write(0, 0, 0, 5) = 0
            commit() = 1
            write(0, 0, 0, 6) = 32
            birth(32) = 2
            write(0, 0, 0, 7) = 32
            read(0, 0, 0) = 7
            """);
        Run.of("Otherwise a free block is allocated: it has another reference, of the same dataset", """
            write(0, 0, 0, 5) = 0
            reflink(0, 0, 0, 7, 15, 1) = 1
            write(0, 0, 0, 6) = 32
            read(0, 7, 15) = 5
            # which it has no more then
            write(0, 7, 15, 7) = 0
            read(0, 0, 0) = 6
            read(0, 7, 15) = 7
            """);
        Run.of("Otherwise a free block is allocated: a clone has another reference", """
            write(0, 0, 0, 5) = 0
            snapshot(0) = 0
            makeClone(0) = 1
            write(1, 0, 0, 6) = 32
            write(1, 0, 0, 7) = 32
            read(0, 0, 0) = 5
            readSnapshot(0, 0, 0) = 5
            """);
        Run.of("Otherwise a free block is allocated: it was born in the open transaction, "
            + "and that crashed", """
            commit() = 1
            write(0, 0, 0, 5) = 0
            crash() = 2
            write(0, 0, 1, 6) = 0
            blockAt(0, 0, 0) = -1
            """);
    }

    private static void regionWithTheMostFreeBlocks() {
        Run.of("The block is taken from the region with the most free blocks", """
            write(0, 0, 0..7, 5) = any
            # 30 are free in each; then 31 in the last one
            punch(0, 0, 7, 1) = 1
            write(0, 1, 0, 5) = 97
            # then 31 in the regions 1 and 3, and 32 in the region 2
            punch(0, 0, 1, 1) = 1
            punch(0, 0, 2, 1) = 1
            punch(0, 0, 6, 1) = 1
            punch(0, 0, 3, 1) = 1
            freeIn(0) = 30
            freeIn(1) = 31
            freeIn(2) = 32
            freeIn(3) = 31
            write(0, 1, 1, 5) = 64
            write(0, 1, 2, 5) = 32
            write(0, 1, 3, 5) = 65
            write(0, 1, 4, 5) = 96
            write(0, 1, 5, 5) = 2
            """);
        Run.of("of several the one with the lowest number", """
            write(0, 0, 0, 5) = 0
            write(0, 0, 1, 5) = 32
            write(0, 0, 2, 5) = 64
            write(0, 0, 3, 5) = 96
            write(0, 0, 4, 5) = 1
            punch(0, 0, 4, 1) = 1
            write(0, 0, 4, 5) = 1
            write(0, 0, 5, 5) = 33
            """);
        Run.of("pending blocks do not count among the free ones", """
            write(0, 0, 0, 5) = 0
            write(0, 0, 1, 5) = 32
            commit() = 1
            punch(0, 0, 0, 1) = 1
            freeIn(0..1) = 31
            freeIn(2..3) = 32
            write(0, 0, 2, 5) = 64
            write(0, 0, 3, 5) = 96
            write(0, 0, 4, 5) = 1
            """);
        Run.of("the last free block of all", Run.filled() + """
            punch(0, 0, 2, 1) = 1
            free() = 1
            write(0, 0, 2, 5) = 64
            write(0, 0, 2, 6) = 64
            punch(0, 7, 15, 1) = 1
            write(0, 7, 15, 6) = 127
            punch(0, 0, 0, 1) = 1
            write(0, 0, 0, 6) = 0
            free() = 0
            """);
    }

    private static void lowestFreeBlock() {
        Run.of("and is the free block of that region with the lowest number", Run.filled() + """
            # the blocks 67, 69 and 95 of the region 2
            punch(0, 1, 6, 1) = 1
            punch(0, 7, 14, 1) = 1
            punch(0, 0, 14, 1) = 1
            write(0, 1, 6, 5) = 67
            write(0, 0, 14, 5) = 69
            write(0, 7, 14, 5) = 95
            """);
    }

    private static void regions() {
        Run.of("the region r has the blocks from 32 * r to 32 * r + 31", Run.filled() + """
            # the blocks 31 and 32, 63 and 64, 95 and 96
            freeIn(0..3) = 0
            punch(0, 7, 12, 1) = 1
            freeIn(0) = 1
            freeIn(1) = 0
            punch(0, 0, 1, 1) = 1
            freeIn(0) = 1
            freeIn(1) = 1
            punch(0, 7, 13, 1) = 1
            freeIn(1) = 2
            freeIn(2) = 0
            punch(0, 0, 2, 1) = 1
            freeIn(1) = 2
            freeIn(2) = 1
            punch(0, 7, 14, 1) = 1
            freeIn(2) = 2
            freeIn(3) = 0
            punch(0, 0, 3, 1) = 1
            freeIn(3) = 1
            # and the very first and the very last one
            punch(0, 0, 0, 1) = 1
            freeIn(0) = 2
            punch(0, 7, 15, 1) = 1
            freeIn(3) = 2
            """);
    }

    private static void firstTransaction() {
        Run.of("One transaction is open at each moment; the first one has the number 1", """
            transaction() = 1
            write(0, 0, 0, 5) = 0
            birth(0) = 1
            transaction() = 1
            crash() = 1
            transaction() = 1
            commit() = 1
            # the next number is open then
            transaction() = 2
            write(0, 0, 0, 5) = 0
            birth(0) = 2
            """);
    }

    private static void crashes() {
        Run.of("A crash brings back everything as it was behind the latest commit", """
            write(0, 0, 0, 5) = 0
            write(0, 0, 1, 6) = 32
            snapshot(0) = 0
            write(0, 0, 1, 7) = 64
            makeClone(0) = 1
            commit() = 2
            # a write in place and a new block, a hole, a shared block, and a freed one
            write(0, 0, 1, 8) = 96
            write(0, 0, 1, 9) = 96
            punch(0, 0, 0, 1) = 1
            reflink(1, 0, 0, 7, 0, 2) = 2
            write(1, 0, 0, 1) = 1
            destroy(1) = 1
            destroySnapshot(0) = 2
            makeClone(0) = throws.IndexOutOfBoundsException
            crash() = 3
            read(0, 0, 0) = 5
            read(0, 0, 1) = 7
            read(1, 0, 0) = 5
            read(1, 0, 1) = 6
            blockAt(1, 7, 0..1) = -1
            readSnapshot(0, 0, 1) = 6
            origin(1) = 0
            references(0) = 3
            references(32) = 2
            references(64) = 1
            references(96) = 0
            references(1) = 0
            pending() = 0
            free() = 125
            logEntries(0..2) = 1
            logEntries(3) = 0
            condensed() = 0
            datasets() = 2
            # and so again, as nothing has come since
            crash() = 3
            read(0, 0, 1) = 7
            transaction() = 3
            """);
        Run.of("A crash brings back the blocks that a write has taken instead of others", """
            write(0, 0, 0, 5) = 0
            commit() = 1
            write(0, 0, 0, 6) = 32
            crash() = 2
            blockAt(0, 0, 0) = 0
            write(0, 0, 0, 7) = 32
            commit() = 2
            crash() = 3
            read(0, 0, 0) = 7
            freeIn(0) = 32
            """);
    }

    private static void crashesAtTheBeginning() {
        Run.of("(or at the beginning, if there was none)", Run.filled() + """
            crash() = 1
            free() = 128
            pending() = 0
            blockAt(0, 0..7, 0) = -1
            read(0, 7, 15) = 0
            references(0) = 0
            birth(127) = throws.IllegalStateException
            datasets() = 1
            snapshots(0) = 0
            logEntries(0..3) = 0
            commit() = 1
            logEntries(0..3) = 0
            crash() = 2
            """);
    }

    private static void crashesBehindSnapshots() {
        Run.of("a snapshot was committed with what was open, so a crash leaves both", """
            write(0, 0, 0, 5) = 0
            snapshot(0) = 0
            crash() = 2
            read(0, 0, 0) = 5
            readSnapshot(0, 0, 0) = 5
            # a clone, a promotion and a rollback are not committed by themselves
            makeClone(0) = 1
            crash() = 2
            datasets() = 1
            makeClone(0) = 1
            commit() = 2
            promote(1) = 1
            crash() = 3
            datasetOf(0) = 0
            origin(0) = -1
            origin(1) = 0
            snapshot(0) = 1
            write(0, 0, 0, 6) = 32
            commit() = 4
            rollback(0, 0) = 1
            crash() = 5
            read(0, 0, 0) = 6
            snapshots(0) = 2
            datasetOf(1) = 0
            transactionOf(1) = 3
            """);
    }

    private static void numbersOfSnapshots() {
        Run.of("they are numbered from 0 in the order in which they are taken, and no number is "
            + "given again", """
            snapshot(0) = 0
            makeClone(0) = 1
            snapshot(1) = 1
            snapshot(0) = 2
            # the highest one, and the only ones of a dataset
            destroySnapshot(2) = 0
            snapshot(0) = 3
            destroySnapshot(1) = 0
            destroySnapshot(3) = 0
            snapshot(1) = 4
            rollback(1, 4) = 0
            snapshot(1) = 5
            rollback(1, 4) = 1
            snapshot(1) = 6
            # what is destroyed may come back by a crash, and has its own number then
            destroySnapshot(6) = 0
            crash() = 8
            datasetOf(6) = 1
            snapshot(0) = 7
            destroySnapshot(7) = 0
            commit() = 9
            snapshot(0) = 8
            datasetOf(7) = throws.IndexOutOfBoundsException
            """);
        Run.of("There are at most 12 at a time, but more one behind another", """
            snapshot(0) = 0
            snapshot(0) = 1
            destroySnapshot(0) = 0
            snapshot(0) = 2
            destroySnapshot(1) = 0
            snapshot(0) = 3
            snapshot(0) = 4
            snapshot(0) = 5
            snapshot(0) = 6
            snapshot(0) = 7
            snapshot(0) = 8
            snapshot(0) = 9
            snapshot(0) = 10
            snapshot(0) = 11
            snapshot(0) = 12
            snapshot(0) = 13
            snapshots(0) = 12
            snapshot(0) = throws.IllegalStateException
            destroySnapshot(13) = 0
            snapshot(0) = 14
            snapshot(0) = throws.IllegalStateException
            rollback(0, 2) = 11
            snapshot(0) = 15
            snapshots(0) = 2
            """);
    }

    private static void ordersOfSnapshots() {
        Run.of("Each belongs to a dataset, which has its snapshots in an order, at first that in "
            + "which they were taken", """
            snapshot(0) = 0
            snapshot(0) = 1
            snapshot(0) = 2
            # behind the first one is destroyed, a new one comes last all the same
            destroySnapshot(0) = 0
            snapshot(0) = 3
            snapshotAt(0, 0) = 1
            snapshotAt(0, 1) = 2
            snapshotAt(0, 2) = 3
            destroySnapshot(2) = 0
            snapshot(0) = 4
            snapshotAt(0, 0) = 1
            snapshotAt(0, 1) = 3
            snapshotAt(0, 2) = 4
            snapshotAt(0, 3) = throws.IndexOutOfBoundsException
            rollback(0, 1) = 2
            snapshots(0) = 1
            snapshotAt(0, 0) = 1
            """);
        Run.of("A crash brings back the order, too", """
            snapshot(0) = 0
            snapshot(0) = 1
            snapshot(0) = 2
            makeClone(1) = 1
            commit() = 4
            destroySnapshot(0) = 0
            snapshotAt(0, 0) = 1
            promote(1) = 1
            snapshotAt(0, 0) = 2
            snapshotAt(1, 0) = 1
            crash() = 5
            snapshotAt(0, 0) = 0
            snapshotAt(0, 1) = 1
            snapshotAt(0, 2) = 2
            snapshots(1) = 0
            """);
    }

    private static void clones() {
        Run.of("A clone is a dataset that begins with what a snapshot has at each place",
            Run.filled() + """
            punch(0, 3, 0, 16) = 16
            snapshot(0) = 0
            punch(0, 0..2, 0, 16) = 16
            punch(0, 4..7, 0, 16) = 16
            makeClone(0) = 1
            changed(0, 1) = 0
            changed(0, 0) = 112
            read(1, 0, 0) = 1000
            read(1, 3, 0) = 0
            blockAt(1, 3, 15) = -1
            read(1, 4, 0) = 1064
            read(1, 7, 15) = 1127
            references(0) = 2
            length(1, 3) = 0
            length(1, 7) = 16
            # this snapshot is its origin
            origin(1) = 0
            snapshots(1) = 0
            """);
        Run.of("a clone of a snapshot without blocks begins with holes, whatever its number had", """
            snapshot(0) = 0
            makeClone(0) = 1
            write(1, 0, 0..15, 5) = any
            destroy(1) = 16
            makeClone(0) = 1
            blockAt(1, 0, 0..15) = -1
            referenced(1) = 0
            free() = 128
            """);
    }
}
