/** Promises 1 to 7. */
public final class FilesTest {
    public static void main(String[] args) {
        newObject();
        write();
        writeShares();
        writeFull();
        read();
        blockAt();
        length();
        punch();
        punchFrees();
        reflink();
        reflinkOverlaps();
        reflinkEdges();
        Run.end();
    }

    private static void newObject() {
        Run.of("promise 1", """
            datasets() = 1
            origin(0) = -1
            origin(1) = throws.IndexOutOfBoundsException
            snapshots(0) = 0
            referenced(0) = 0
            blockAt(0, 0..7, 0..15) = -1
            free() = 128
            pending() = 0
            transaction() = 1
            condensed() = 0
            logEntries(0..3) = 0
            """);
    }

    private static void write() {
        Run.of("promise 2", """
            write(0, 0, 0, 7) = 0
            write(0, 0, 0, -2147483648) = 0
            read(0, 0, 0) = -2147483648
            write(0, 7, 15, 2147483647) = 32
            write(0, 7, 0, 0) = 64
            write(0, 0, 15, 1) = 96
            write(0, 3, 3, 2) = 1
            read(0, 7, 15) = 2147483647
            # a block of an earlier transaction is not overwritten
            commit() = 1
            write(0, 0, 0, 8) = 33
            pending() = 1
            write(0, 0, 0, 9) = 33
            read(0, 0, 0) = 9
            references(0) = 0
            # with block 0 pending, regions 2 and 3 have 31 free blocks each
            write(0, 4, 4, 4) = 65
            write(0, 4, 5, 4) = 97
            # then 30, 30, 30 and 30
            write(0, 4, 6, 4) = 2
            commit() = 2
            # block 0 is free again: region 0 has 30, the others 30
            freeIn(0) = 30
            freeIn(1..3) = 30
            write(0, 5, 0, 1) = 0
            write(1, 0, 0, 1) = throws.IndexOutOfBoundsException
            write(-1, 0, 0, 1) = throws.IndexOutOfBoundsException
            write(6, 0, 0, 1) = throws.IndexOutOfBoundsException
            write(2147483647, 0, 0, 1) = throws.IndexOutOfBoundsException
            write(-2147483648, 0, 0, 1) = throws.IndexOutOfBoundsException
            write(0, -1, 0, 1) = throws.IndexOutOfBoundsException
            write(0, 8, 0, 1) = throws.IndexOutOfBoundsException
            write(0, 0, -1, 1) = throws.IndexOutOfBoundsException
            write(0, 0, 16, 1) = throws.IndexOutOfBoundsException
            write(0, 134217728, 0, 1) = throws.IndexOutOfBoundsException
            referenced(0) = 9
            """);
    }

    private static void writeShares() {
        Run.of("promise 2, shared blocks", """
            write(0, 0, 0, 1) = 0
            reflink(0, 0, 0, 1, 0, 1) = 1
            # born in the open transaction, but with another reference
            write(0, 0, 0, 2) = 32
            read(0, 1, 0) = 1
            write(0, 1, 0, 3) = 0
            references(0) = 1
            snapshot(0) = 0
            write(0, 0, 0, 4) = 64
            pending() = 0
            readSnapshot(0, 0, 0) = 2
            makeClone(0) = 1
            write(1, 0, 0, 5) = 96
            read(0, 0, 0) = 4
            read(1, 0, 0) = 5
            readSnapshot(0, 0, 0) = 2
            """);
    }

    private static void writeFull() {
        Run.of("promise 2, a full volume", """
            write(0, 0..7, 0..15, 5) = any
            free() = 0
            # no block is needed
            write(0, 7, 15, 6) = 127
            reflink(0, 0, 0, 0, 1, 1) = 1
            free() = 1
            write(0, 0, 1, 8) = 32
            free() = 0
            reflink(0, 0, 0, 0, 1, 1) = 1
            write(0, 0, 0, 8) = 32
            reflink(0, 0, 0, 0, 1, 1) = 1
            write(0, 0, 1, 8) = 0
            commit() = 1
            write(0, 0, 0, 9) = throws.IllegalStateException
            read(0, 0, 0) = 8
            blockAt(0, 0, 0) = 32
            punch(0, 0, 0, 1) = 1
            # a pending block is not free
            pending() = 1
            write(0, 0, 0, 9) = throws.IllegalStateException
            blockAt(0, 0, 0) = -1
            write(0, 8, 0, 9) = throws.IndexOutOfBoundsException
            write(1, 0, 0, 9) = throws.IndexOutOfBoundsException
            commit() = 2
            write(0, 0, 0, 9) = 32
            write(0, 0, 1, 9) = throws.IllegalStateException
            """);
    }

    private static void read() {
        Run.of("promise 3", """
            read(0, 0, 0) = 0
            write(0, 2, 5, -3) = 0
            read(0, 2, 5) = -3
            read(0, 2, 4) = 0
            read(0, 5, 2) = 0
            punch(0, 2, 5, 1) = 1
            read(0, 2, 5) = 0
            write(0, 7, 15, 11) = 0
            read(0, 7, 15) = 11
            read(1, 0, 0) = throws.IndexOutOfBoundsException
            read(-1, 0, 0) = throws.IndexOutOfBoundsException
            read(6, 0, 0) = throws.IndexOutOfBoundsException
            read(0, 8, 0) = throws.IndexOutOfBoundsException
            read(0, -1, 15) = throws.IndexOutOfBoundsException
            read(0, 0, 16) = throws.IndexOutOfBoundsException
            read(0, 1, -1) = throws.IndexOutOfBoundsException
            snapshot(0) = 0
            makeClone(0) = 1
            read(1, 7, 15) = 11
            destroy(1) = 0
            read(1, 7, 15) = throws.IndexOutOfBoundsException
            """);
    }

    private static void blockAt() {
        Run.of("promise 4", """
            blockAt(0, 1, 1) = -1
            write(0, 1, 1, 5) = 0
            blockAt(0, 1, 1) = 0
            write(0, 7, 15, 5) = 32
            blockAt(0, 7, 15) = 32
            blockAt(0, 7, 14) = -1
            punch(0, 1, 1, 1) = 1
            blockAt(0, 1, 1) = -1
            blockAt(1, 0, 0) = throws.IndexOutOfBoundsException
            blockAt(-1, 0, 0) = throws.IndexOutOfBoundsException
            blockAt(0, -1, 0) = throws.IndexOutOfBoundsException
            blockAt(0, 8, 0) = throws.IndexOutOfBoundsException
            blockAt(0, 1, -1) = throws.IndexOutOfBoundsException
            blockAt(0, 0, 16) = throws.IndexOutOfBoundsException
            """);
    }

    private static void length() {
        Run.of("promise 5", """
            length(0, 0..7) = 0
            write(0, 3, 0, 1) = 0
            length(0, 3) = 1
            write(0, 3, 15, 0) = 32
            length(0, 3) = 16
            length(0, 2) = 0
            length(0, 4) = 0
            write(0, 3, 6, 1) = 64
            punch(0, 3, 15, 1) = 1
            length(0, 3) = 7
            punch(0, 3, 6, 1) = 1
            length(0, 3) = 1
            punch(0, 3, 0, 16) = 1
            length(0, 3) = 0
            write(0, 7, 15, 1) = any
            length(0, 7) = 16
            length(1, 0) = throws.IndexOutOfBoundsException
            length(-1, 0) = throws.IndexOutOfBoundsException
            length(0, 8) = throws.IndexOutOfBoundsException
            length(0, -1) = throws.IndexOutOfBoundsException
            """);
    }

    private static void punch() {
        Run.of("promise 6", """
            write(0, 2, 3..6, 9) = any
            write(0, 1, 15, 9) = any
            write(0, 3, 0, 9) = any
            punch(0, 2, 4, 1) = 1
            punch(0, 2, 4, 1) = 0
            punch(0, 2, 3, 3) = 2
            blockAt(0, 2, 6) = 96
            punch(0, 2, 0, 16) = 1
            length(0, 2) = 0
            length(0, 1) = 16
            length(0, 3) = 1
            punch(0, 2, 15, 1) = 0
            punch(0, 1, 15, 1) = 1
            punch(0, 3, 0, 0) = throws.IllegalArgumentException
            punch(0, 3, 0, -1) = throws.IllegalArgumentException
            punch(0, 3, 0, -2147483648) = throws.IllegalArgumentException
            punch(0, 3, 0, 17) = throws.IllegalArgumentException
            punch(0, 3, 0, 2147483647) = throws.IllegalArgumentException
            punch(0, 3, 1, 16) = throws.IllegalArgumentException
            punch(0, 3, 15, 2147483647) = throws.IllegalArgumentException
            punch(0, 3, 15, 2) = throws.IllegalArgumentException
            blockAt(0, 3, 0) = 33
            punch(1, 0, 0, 0) = throws.IndexOutOfBoundsException
            punch(-1, 0, 0, 0) = throws.IndexOutOfBoundsException
            punch(0, 8, 0, 17) = throws.IndexOutOfBoundsException
            punch(0, -1, 0, 17) = throws.IndexOutOfBoundsException
            punch(0, 0, 16, 0) = throws.IndexOutOfBoundsException
            punch(0, 0, -1, 0) = throws.IndexOutOfBoundsException
            punch(0, 0, -1, 1) = throws.IndexOutOfBoundsException
            """);
    }

    private static void punchFrees() {
        Run.of("promise 6, what becomes of the blocks", """
            write(0, 0, 0..3, 9) = any
            punch(0, 0, 0, 1) = 1
            free() = 125
            pending() = 0
            commit() = 1
            punch(0, 0, 1, 1) = 1
            free() = 125
            pending() = 1
            write(0, 0, 0, 1) = 0
            write(0, 0, 1, 1) = 1
            punch(0, 0, 0, 16) = 4
            pending() = 3
            free() = 125
            commit() = 2
            pending() = 0
            free() = 128
            """);
    }

    private static void reflink() {
        Run.of("promise 7", """
            write(0, 0, 0, 10) = 0
            write(0, 0, 1, 11) = 32
            reflink(0, 0, 0, 7, 13, 3) = 2
            blockAt(0, 7, 13) = 0
            blockAt(0, 7, 14) = 32
            blockAt(0, 7, 15) = -1
            references(0) = 2
            reflink(0, 0, 0, 7, 13, 3) = 0
            # a hole in place of a block, and a block in place of another
            reflink(0, 0, 1, 7, 13, 2) = 2
            blockAt(0, 7, 13) = 32
            blockAt(0, 7, 14) = -1
            references(0) = 1
            references(32) = 2
            # both references of a block are overwritten at once
            write(0, 2, 0, 5) = 64
            reflink(0, 2, 0, 2, 1, 1) = 1
            reflink(0, 0, 0, 2, 0, 2) = 2
            references(64) = 0
            free() = 126
            pending() = 0
            read(0, 2, 1) = 11
            """);
    }

    private static void reflinkOverlaps() {
        Run.of("promise 7, parts that overlap", """
            write(0, 0, 0..3, 5) = any
            reflink(0, 0, 0, 0, 1, 4) = 4
            blockAt(0, 0, 0) = 0
            blockAt(0, 0, 1) = 0
            blockAt(0, 0, 2) = 32
            blockAt(0, 0, 3) = 64
            blockAt(0, 0, 4) = 96
            reflink(0, 0, 1, 0, 0, 4) = 3
            blockAt(0, 0, 0) = 0
            blockAt(0, 0, 1) = 32
            blockAt(0, 0, 2) = 64
            blockAt(0, 0, 3) = 96
            blockAt(0, 0, 4) = 96
            references(96) = 2
            reflink(0, 0, 0, 0, 0, 16) = 0
            # a block that moves on to another place never loses its last reference
            commit() = 1
            reflink(0, 0, 0, 0, 8, 8) = 5
            reflink(0, 1, 0, 0, 0, 8) = 5
            reflink(0, 0, 8, 0, 0, 8) = 5
            pending() = 0
            free() = 124
            references(0) = 2
            """);
    }

    private static void reflinkEdges() {
        Run.of("promise 7, wrong inputs", """
            write(0, 0, 0, 5) = 0
            reflink(1, 0, 0, 0, 0, 1) = throws.IndexOutOfBoundsException
            reflink(-1, 0, 0, 0, 0, 0) = throws.IndexOutOfBoundsException
            reflink(0, 8, 0, 0, 0, 0) = throws.IndexOutOfBoundsException
            reflink(0, -1, 0, 0, 0, 0) = throws.IndexOutOfBoundsException
            reflink(0, 0, 16, 0, 0, 0) = throws.IndexOutOfBoundsException
            reflink(0, 0, -1, 0, 0, 0) = throws.IndexOutOfBoundsException
            reflink(0, 0, 0, 8, 0, 0) = throws.IndexOutOfBoundsException
            reflink(0, 0, 0, -1, 0, 0) = throws.IndexOutOfBoundsException
            reflink(0, 0, 0, 0, 16, 17) = throws.IndexOutOfBoundsException
            reflink(0, 0, 0, 0, -1, 17) = throws.IndexOutOfBoundsException
            reflink(0, 0, 0, 1, 0, 0) = throws.IllegalArgumentException
            reflink(0, 0, 0, 1, 0, -1) = throws.IllegalArgumentException
            reflink(0, 0, 0, 1, 0, 17) = throws.IllegalArgumentException
            reflink(0, 0, 1, 1, 0, 16) = throws.IllegalArgumentException
            reflink(0, 0, 0, 1, 1, 16) = throws.IllegalArgumentException
            reflink(0, 0, 15, 1, 15, 2147483647) = throws.IllegalArgumentException
            reflink(0, 0, 15, 1, 15, -2147483648) = throws.IllegalArgumentException
            references(0) = 1
            reflink(0, 0, 15, 1, 15, 1) = 0
            reflink(0, 0, 0, 1, 15, 1) = 1
            reflink(0, 0, 0, 1, 0, 16) = 2
            references(0) = 2
            """);
    }
}
