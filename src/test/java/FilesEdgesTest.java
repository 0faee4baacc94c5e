/** The sentences of the promises 1 to 10 that name a boundary; RefusedTest has what they refuse. */
public final class FilesEdgesTest {
    public static void main(String[] args) {
        newObject();
        writeAtTheEdges();
        writeValues();
        writeNeedsNoBlock();
        writeNeedsTheLastBlock();
        writeNeedsABlock();
        read();
        blockAt();
        length();
        punchOne();
        punchAll();
        punchCounts();
        reflinkOne();
        reflinkAll();
        reflinkOntoItself();
        reflinkOverlaps();
        reflinkAnswers();
        reflinkOfAFullVolume();
        commit();
        crash();
        transaction();
        Run.end();
    }

    private static void newObject() {
        Run.of("promise 1: a volume with the dataset 0, and no other", """
            datasets() = 1
            origin(0) = -1
            origin(1..6) = throws.IndexOutOfBoundsException
            origin(-1) = throws.IndexOutOfBoundsException
            snapshots(0) = 0
            snapshotAt(0, 0) = throws.IndexOutOfBoundsException
            datasetOf(0) = throws.IndexOutOfBoundsException
            promote(0) = throws.IllegalStateException
            destroy(0) = throws.IllegalStateException
            unique(0) = 0
            newer(0, 0) = 0
            """);
    }

    private static void writeAtTheEdges() {
        Run.of("promise 2: file 0 to 7, index 0 to 15", """
            write(0, 0, 0, 1) = 0
            write(0, 0, 15, 2) = 32
            write(0, 7, 0, 3) = 64
            write(0, 7, 15, 4) = 96
            read(0, 0, 0) = 1
            read(0, 0, 15) = 2
            read(0, 7, 0) = 3
            read(0, 7, 15) = 4
            # the places beside them are holes
            blockAt(0, 0, 1) = -1
            blockAt(0, 0, 14) = -1
            blockAt(0, 1, 0) = -1
            blockAt(0, 6, 15) = -1
            blockAt(0, 7, 1) = -1
            blockAt(0, 7, 14) = -1
            """);
        Run.of("promise 2: its number, of the last dataset there can be", """
            snapshot(0) = 0
            makeClone(0) = 1
            makeClone(0) = 2
            makeClone(0) = 3
            makeClone(0) = 4
            makeClone(0) = 5
            write(5, 0, 0, 1) = 0
            write(5, 7, 15, 2) = 32
            read(5, 7, 15) = 2
            read(4, 7, 15) = 0
            read(0, 0, 0) = 0
            write(6, 0, 0, 1) = throws.IndexOutOfBoundsException
            """);
    }

    private static void writeValues() {
        Run.of("promise 2: value is any int", """
            write(0, 0, 0, -2147483648) = 0
            read(0, 0, 0) = -2147483648
            write(0, 0, 0, 2147483647) = 0
            read(0, 0, 0) = 2147483647
            write(0, 0, 0, 0) = 0
            read(0, 0, 0) = 0
            blockAt(0, 0, 0) = 0
            write(0, 0, 0, -1) = 0
            read(0, 0, 0) = -1
            # the value that it has already is written as any other
            commit() = 1
            write(0, 0, 0, -1) = 32
            """);
    }

    private static void writeNeedsNoBlock() {
        Run.of("promise 2: a full volume, and no block is needed", Run.filled() + """
            free() = 0
            write(0, 0, 0, 5) = 0
            write(0, 7, 15, 6) = 127
            read(0, 0, 0) = 5
            read(0, 7, 15) = 6
            free() = 0
            """);
    }

    private static void writeNeedsTheLastBlock() {
        Run.of("promise 2: one block is free, and it is needed", Run.filled() + """
            punch(0, 3, 9, 1) = 1
            commit() = 1
            free() = 1
            # another transaction's block, 0; what it loses is pending
            write(0, 0, 0, 5) = 46
            free() = 0
            pending() = 1
            read(0, 0, 0) = 5
            # born in the open transaction, so none is needed
            write(0, 0, 0, 6) = 46
            write(0, 0, 1, 6) = throws.IllegalStateException
            write(0, 3, 9, 6) = throws.IllegalStateException
            commit() = 2
            free() = 1
            write(0, 3, 9, 6) = 0
            """);
        Run.of("promise 2: a hole gets the last block", Run.filled() + """
            punch(0, 7, 15, 1) = 1
            write(0, 7, 15, 6) = 127
            free() = 0
            """);
    }

    private static void writeNeedsABlock() {
        Run.of("promise 2: a block is needed, and none is free, as snapshots have them all",
            Run.filled() + """
            snapshot(0) = 0
            punch(0, 0..7, 0, 16) = 16
            free() = 0
            pending() = 0
            write(0, 0, 0, 5) = throws.IllegalStateException
            blockAt(0, 0, 0) = -1
            commit() = 2
            write(0, 0, 0, 5) = throws.IllegalStateException
            destroySnapshot(0) = 128
            # they are pending still
            write(0, 0, 0, 5) = throws.IllegalStateException
            commit() = 3
            write(0, 0, 0, 5) = 0
            """);
    }

    private static void read() {
        Run.of("promise 3: 0 for a hole, at the first place and at the last one", """
            read(0, 0, 0) = 0
            read(0, 7, 15) = 0
            write(0, 0, 0, 5) = 0
            write(0, 7, 15, 6) = 32
            read(0, 0, 0) = 5
            read(0, 0, 1) = 0
            read(0, 7, 14) = 0
            read(0, 7, 15) = 6
            """);
    }

    private static void blockAt() {
        Run.of("promise 4: NONE for a hole, and the block 0 is none", """
            blockAt(0, 0, 0) = -1
            blockAt(0, 7, 15) = -1
            write(0, 7, 15, 0) = 0
            blockAt(0, 7, 15) = 0
            """);
        Run.of("promise 4: the last block", Run.filled() + """
            blockAt(0, 0, 0) = 0
            blockAt(0, 7, 15) = 127
            """);
    }

    private static void length() {
        Run.of("promise 5: 0 if all are holes; 1 more than its last index with a block", """
            length(0, 0..7) = 0
            write(0, 0, 0, 0) = 0
            length(0, 0) = 1
            length(0, 1) = 0
            write(0, 7, 15, 0) = 32
            # all ahead of it are holes
            length(0, 7) = 16
            length(0, 6) = 0
            write(0, 7, 14, 0) = 64
            punch(0, 7, 15, 1) = 1
            length(0, 7) = 15
            punch(0, 7, 14, 1) = 1
            length(0, 7) = 0
            reflink(0, 0, 0, 7, 15, 1) = 1
            length(0, 7) = 16
            # a hole that is put there makes it shorter
            reflink(0, 1, 0, 7, 15, 1) = 1
            length(0, 7) = 0
            """);
    }

    private static void punchOne() {
        Run.of("promise 6: index 0 to 15, count 1", Run.filled() + """
            punch(0, 0, 0, 1) = 1
            punch(0, 0, 15, 1) = 1
            punch(0, 7, 0, 1) = 1
            punch(0, 7, 15, 1) = 1
            punch(0, 7, 15, 1) = 0
            # the places beside them have their blocks
            blockAt(0, 0, 1) = 32
            blockAt(0, 0, 14) = 67
            blockAt(0, 1, 0) = 4
            blockAt(0, 6, 15) = 123
            blockAt(0, 7, 1) = 60
            blockAt(0, 7, 14) = 95
            blockAt(0, 0, 0) = -1
            blockAt(0, 0, 15) = -1
            blockAt(0, 7, 0) = -1
            blockAt(0, 7, 15) = -1
            free() = 4
            """);
    }

    private static void punchAll() {
        Run.of("promise 6: as many as the file has", Run.filled() + """
            punch(0, 0, 0, 16) = 16
            punch(0, 0, 0, 16) = 0
            length(0, 0) = 0
            length(0, 1) = 16
            punch(0, 7, 1, 15) = 15
            length(0, 7) = 1
            punch(0, 7, 0, 16) = 1
            punch(0, 6, 14, 2) = 2
            length(0, 6) = 14
            free() = 34
            """);
    }

    private static void punchCounts() {
        Run.of("promise 6: how many of them had a block", """
            punch(0, 0, 0, 16) = 0
            write(0, 0, 0, 1) = 0
            write(0, 0, 5, 1) = 32
            write(0, 0, 15, 1) = 64
            punch(0, 0, 1, 4) = 0
            punch(0, 0, 6, 9) = 0
            # two places with the same block are two
            reflink(0, 0, 0, 0, 1, 1) = 1
            punch(0, 0, 0, 6) = 3
            punch(0, 0, 15, 1) = 1
            """);
    }

    private static void reflinkOne() {
        Run.of("promise 7: count 1, at the edges of both files", """
            write(0, 0, 0, 1) = 0
            reflink(0, 0, 0, 7, 15, 1) = 1
            reflink(0, 7, 15, 0, 15, 1) = 1
            reflink(0, 0, 15, 7, 0, 1) = 1
            references(0) = 4
            blockAt(0, 7, 14) = -1
            blockAt(0, 7, 15) = 0
            blockAt(0, 0, 15) = 0
            blockAt(0, 0, 14) = -1
            blockAt(0, 7, 0) = 0
            blockAt(0, 1, 0) = -1
            blockAt(0, 6, 15) = -1
            free() = 127
            """);
    }

    private static void reflinkAll() {
        Run.of("promise 7: as many as both files have", Run.filled() + """
            reflink(0, 0, 0, 7, 0, 16) = 16
            blockAt(0, 7, 0) = 0
            blockAt(0, 7, 15) = 99
            blockAt(0, 6, 15) = 123
            free() = 16
            reflink(0, 7, 0, 0, 0, 16) = 0
            reflink(0, 1, 1, 2, 0, 15) = 15
            blockAt(0, 2, 14) = 103
            blockAt(0, 2, 15) = 107
            reflink(0, 1, 0, 3, 1, 15) = 15
            blockAt(0, 3, 0) = 12
            blockAt(0, 3, 15) = 71
            """);
        Run.of("promise 7: as many holes as both files have", """
            reflink(0, 0, 0, 7, 0, 16) = 0
            reflink(0, 0, 0, 0, 0, 16) = 0
            free() = 128
            """);
    }

    private static void reflinkOntoItself() {
        Run.of("promise 7: perhaps the same file, and the same place", Run.filled() + """
            reflink(0, 0, 0, 0, 0, 16) = 0
            reflink(0, 7, 15, 7, 15, 1) = 0
            references(0..127) = 1
            free() = 0
            """);
    }

    private static void reflinkOverlaps() {
        Run.of("promise 7: as these are ahead of the call, to the next place up", """
            write(0, 0, 0, 1) = 0
            reflink(0, 0, 0, 0, 1, 15) = 1
            # not one block at all places, but one place up
            blockAt(0, 0, 0..1) = 0
            blockAt(0, 0, 2..15) = -1
            references(0) = 2
            """);
        Run.of("promise 7: as these are ahead of the call, to the next place down", """
            write(0, 0, 15, 1) = 0
            reflink(0, 0, 1, 0, 0, 15) = 1
            blockAt(0, 0, 14..15) = 0
            blockAt(0, 0, 0..13) = -1
            """);
        Run.of("promise 7: as these are ahead of the call, with one place in common", """
            write(0, 0, 0..15, 1) = any
            reflink(0, 0, 0, 0, 7, 8) = 8
            blockAt(0, 0, 7) = 0
            blockAt(0, 0, 14) = 97
            blockAt(0, 0, 15) = 99
            # the blocks of the places 8 to 14 are lost, that of the place 7 is at the place 14
            free() = 119
            references(97) = 1
            references(2) = 0
            """);
    }

    private static void reflinkAnswers() {
        Run.of("promise 7: another block than before, or a hole in place of a block, or the other "
            + "way round", """
            write(0, 0, 0, 5) = 0
            write(0, 1, 0, 5) = 32
            # another block, though its value is the same
            reflink(0, 0, 0, 1, 0, 1) = 1
            # the same block
            reflink(0, 0, 0, 1, 0, 1) = 0
            # a hole in place of a block
            reflink(0, 2, 0, 1, 0, 1) = 1
            # a hole in place of a hole
            reflink(0, 2, 0, 1, 0, 1) = 0
            # a block in place of a hole
            reflink(0, 0, 0, 1, 0, 1) = 1
            # the block 0 in place of a hole, and a hole in place of the block 0
            reflink(0, 0, 0, 0, 1, 1) = 1
            reflink(0, 2, 0, 0, 0, 2) = 2
            """);
    }

    private static void reflinkOfAFullVolume() {
        Run.of("promise 7: needs no block", Run.filled() + """
            commit() = 1
            free() = 0
            reflink(0, 0, 0, 7, 0, 16) = 16
            free() = 0
            pending() = 16
            references(0) = 2
            references(28) = 0
            """);
    }

    private static void commit() {
        Run.of("promise 8: its number, also if nothing is new", """
            commit() = 1
            commit() = 2
            logEntries(0..3) = 0
            transaction() = 3
            """);
        Run.of("promise 8: a full volume", Run.filled() + """
            commit() = 1
            birth(0..127) = 1
            free() = 0
            crash() = 2
            free() = 0
            """);
    }

    private static void crash() {
        Run.of("promise 9: the number of the open transaction then", """
            crash() = 1
            crash() = 1
            commit() = 1
            crash() = 2
            crash() = 2
            snapshot(0) = 0
            crash() = 3
            commit() = 3
            commit() = 4
            crash() = 5
            """);
        Run.of("promise 9: a new block's number and its birth can be given again", """
            write(0, 0, 0, 5) = 0
            birth(0) = 1
            crash() = 1
            birth(0) = throws.IllegalStateException
            commit() = 1
            write(0, 0, 0, 6) = 0
            birth(0) = 2
            """);
    }

    private static void transaction() {
        Run.of("promise 10: no call but a commit and a snapshot opens another one", """
            transaction() = 1
            write(0, 0, 0, 5) = 0
            punch(0, 0, 0, 1) = 1
            reflink(0, 0, 0, 1, 0, 16) = 0
            transaction() = 1
            snapshot(0) = 0
            transaction() = 2
            makeClone(0) = 1
            promote(1) = 1
            rollback(1, 0) = 0
            destroy(0) = 0
            destroySnapshot(0) = 0
            destroy(1) = throws.IllegalStateException
            transaction() = 2
            commit() = 2
            transaction() = 3
            """);
    }
}
