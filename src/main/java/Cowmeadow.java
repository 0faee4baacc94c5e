import java.util.Arrays;

/**
 * A copy-on-write volume: datasets of files, whose blocks are never overwritten while anything
 * else needs them; snapshots, clones, files that share blocks, and space maps that log what is
 * allocated.
 */
public final class Cowmeadow {
    public static final int NONE = -1;

    private static final int DATASETS = 6;
    private static final int SNAPSHOTS = 12;
    private static final int FILES = 8;
    private static final int INDEXES = 16;
    private static final int PLACES = FILES * INDEXES;
    private static final int REGIONS = 4;
    private static final int REGION_BLOCKS = 32;
    private static final int BLOCKS = REGIONS * REGION_BLOCKS;
    // A region has at most 16 runs, so a commit leaves at most 2 * 16 + 2 entries; the next one
    // adds at most a run for each block ahead of condensing.
    private static final int LOG_ENTRIES = REGION_BLOCKS + 2 + REGION_BLOCKS;

    private final Volume open = new Volume();
    private final Volume committed = new Volume();
    // Rows that are used again by each call, so that calls make no arrays.
    private final int[] taken = new int[INDEXES];
    private final int[] uses = new int[BLOCKS];

    public Cowmeadow() {
    }

    // ---- files

    public int write(int dataset, int file, int index, int value)
            throws IndexOutOfBoundsException, IllegalStateException {
        Table table = datasetOrThrow(dataset).table;
        int place = placeOrThrow(file, index);
        int block = table.blockOf(place);
        if (open.space.bornIn(block, open.number) && open.space.usesOf(block) == 1) {
            open.space.setValue(block, value);
            return block;
        }
        int fresh = open.space.nextFreeBlock();
        if (fresh == NONE) {
            throw new IllegalStateException("no block is free");
        }
        open.space.allocate(fresh, value, open.number);
        open.put(table, place, fresh);
        open.settle();
        return fresh;
    }

    public int read(int dataset, int file, int index) throws IndexOutOfBoundsException {
        return open.space.valueOf(datasetOrThrow(dataset).table.blockOf(placeOrThrow(file, index)));
    }

    public int blockAt(int dataset, int file, int index) throws IndexOutOfBoundsException {
        return datasetOrThrow(dataset).table.blockOf(placeOrThrow(file, index));
    }

    public int length(int dataset, int file) throws IndexOutOfBoundsException {
        Table table = datasetOrThrow(dataset).table;
        int start = placeOrThrow(file, 0);
        int end = 0;
        for (int i = 0; i < INDEXES; i++) {
            if (table.blockOf(start + i) != NONE) {
                end = i + 1;
            }
        }
        return end;
    }

    public int punch(int dataset, int file, int index, int count)
            throws IndexOutOfBoundsException, IllegalArgumentException {
        Table table = datasetOrThrow(dataset).table;
        int start = placeOrThrow(file, index);
        if (!fits(index, count)) {
            throw new IllegalArgumentException("the file has not so many indexes");
        }
        int punched = 0;
        for (int i = 0; i < count; i++) {
            if (table.blockOf(start + i) != NONE) {
                open.put(table, start + i, NONE);
                punched++;
            }
        }
        open.settle();
        return punched;
    }

    public int reflink(int dataset, int file, int index, int toFile, int toIndex, int count)
            throws IndexOutOfBoundsException, IllegalArgumentException {
        Table table = datasetOrThrow(dataset).table;
        int from = placeOrThrow(file, index);
        int to = placeOrThrow(toFile, toIndex);
        if (!fits(index, count) || !fits(toIndex, count)) {
            throw new IllegalArgumentException("a file has not so many indexes");
        }
        take(table, from, count);
        int different = 0;
        for (int i = 0; i < count && i < taken.length; i++) {
            if (table.blockOf(to + i) != taken[i]) {
                open.put(table, to + i, taken[i]);
                different++;
            }
        }
        open.settle();
        return different;
    }

    // ---- transactions

    public int commit() {
        return closeTransaction();
    }

    public int crash() {
        open.copyFrom(committed);
        return open.number;
    }

    public int transaction() {
        return open.number;
    }

    // ---- snapshots

    public int snapshot(int dataset) throws IndexOutOfBoundsException, IllegalStateException {
        Dataset source = datasetOrThrow(dataset);
        Snapshot taking = open.unusedSnapshot();
        if (taking == null) {
            throw new IllegalStateException("there are 12 snapshots");
        }
        open.take(taking, source, dataset);
        closeTransaction();
        return taking.number;
    }

    public int readSnapshot(int snapshot, int file, int index) throws IndexOutOfBoundsException {
        return open.space.valueOf(snapshotOrThrow(snapshot).table.blockOf(placeOrThrow(file, index)));
    }

    public int blockInSnapshot(int snapshot, int file, int index) throws IndexOutOfBoundsException {
        return snapshotOrThrow(snapshot).table.blockOf(placeOrThrow(file, index));
    }

    public int transactionOf(int snapshot) throws IndexOutOfBoundsException {
        return snapshotOrThrow(snapshot).takenIn;
    }

    public int datasetOf(int snapshot) throws IndexOutOfBoundsException {
        return snapshotOrThrow(snapshot).owner;
    }

    public int snapshots(int dataset) throws IndexOutOfBoundsException {
        datasetOrThrow(dataset);
        return open.snapshotsOf(dataset);
    }

    public int snapshotAt(int dataset, int place) throws IndexOutOfBoundsException {
        datasetOrThrow(dataset);
        Snapshot found = open.snapshotOfRank(dataset, place);
        if (found == null) {
            throw new IndexOutOfBoundsException("it has not so many snapshots");
        }
        return found.number;
    }

    public int destroySnapshot(int snapshot) throws IndexOutOfBoundsException, IllegalStateException {
        Snapshot old = snapshotOrThrow(snapshot);
        if (open.isOrigin(snapshot)) {
            throw new IllegalStateException("it is the origin of a dataset");
        }
        open.drop(old);
        return open.settle();
    }

    public int rollback(int dataset, int snapshot)
            throws IndexOutOfBoundsException, IllegalArgumentException, IllegalStateException {
        Dataset target = datasetOrThrow(dataset);
        Snapshot source = snapshotOrThrow(snapshot);
        if (source.owner != dataset) {
            throw new IllegalArgumentException("the snapshot belongs to another dataset");
        }
        if (open.hasOriginBehind(source)) {
            throw new IllegalStateException("a snapshot behind it is the origin of a dataset");
        }
        open.fill(target.table, source.table);
        int dropped = open.dropBehind(source);
        open.settle();
        return dropped;
    }

    public int changed(int snapshot, int dataset) throws IndexOutOfBoundsException {
        Table before = snapshotOrThrow(snapshot).table;
        Table now = datasetOrThrow(dataset).table;
        int different = 0;
        for (int place = 0; place < PLACES; place++) {
            if (before.blockOf(place) != now.blockOf(place)) {
                different++;
            }
        }
        return different;
    }

    // ---- datasets

    public int datasets() {
        return open.countDatasets();
    }

    public int makeClone(int snapshot) throws IndexOutOfBoundsException, IllegalStateException {
        Snapshot source = snapshotOrThrow(snapshot);
        int number = open.unusedDataset();
        if (number == NONE) {
            throw new IllegalStateException("there are 6 datasets");
        }
        open.branch(number, source);
        return number;
    }

    public int origin(int dataset) throws IndexOutOfBoundsException {
        return datasetOrThrow(dataset).source;
    }

    public int promote(int dataset) throws IndexOutOfBoundsException, IllegalStateException {
        Dataset clone = datasetOrThrow(dataset);
        Snapshot shared = open.findSnapshot(clone.source);
        if (shared == null) {
            throw new IllegalStateException("it has no origin");
        }
        Dataset other = open.findDataset(shared.owner);
        if (other != null) {
            open.handOver(shared, dataset);
            clone.source = other.source;
            other.source = shared.number;
        }
        return open.snapshotsOf(dataset);
    }

    public int destroy(int dataset) throws IndexOutOfBoundsException, IllegalStateException {
        Dataset old = datasetOrThrow(dataset);
        if (open.snapshotsOf(dataset) > 0) {
            throw new IllegalStateException("it has snapshots");
        }
        if (open.countDatasets() == 1) {
            throw new IllegalStateException("it is the only dataset");
        }
        open.clear(old.table);
        old.exists = false;
        old.source = NONE;
        return open.settle();
    }

    public int referenced(int dataset) throws IndexOutOfBoundsException {
        countUses(datasetOrThrow(dataset).table);
        int different = 0;
        for (int block = 0; block < uses.length; block++) {
            if (uses[block] > 0) {
                different++;
            }
        }
        return different;
    }

    public int unique(int dataset) throws IndexOutOfBoundsException {
        return countOwn(datasetOrThrow(dataset).table);
    }

    public int uniqueOfSnapshot(int snapshot) throws IndexOutOfBoundsException {
        return countOwn(snapshotOrThrow(snapshot).table);
    }

    public int newer(int dataset, int transaction) throws IndexOutOfBoundsException {
        Table table = datasetOrThrow(dataset).table;
        int found = 0;
        for (int place = 0; place < PLACES; place++) {
            int block = table.blockOf(place);
            if (block != NONE && open.space.birthOf(block) > transaction) {
                found++;
            }
        }
        return found;
    }

    // ---- blocks and space

    public int birth(int block) throws IndexOutOfBoundsException, IllegalStateException {
        blockOrThrow(block);
        if (!open.space.isAllocated(block)) {
            throw new IllegalStateException("the block is not allocated");
        }
        return open.space.birthOf(block);
    }

    public int references(int block) throws IndexOutOfBoundsException {
        blockOrThrow(block);
        return open.space.usesOf(block);
    }

    public int free() {
        return open.space.count(Space.FREE, 0, BLOCKS);
    }

    public int pending() {
        return open.space.count(Space.PENDING, 0, BLOCKS);
    }

    public int freeIn(int region) throws IndexOutOfBoundsException {
        regionOrThrow(region);
        return open.space.freeInRegion(region);
    }

    public int logEntries(int region) throws IndexOutOfBoundsException {
        return logOrThrow(region).entries;
    }

    public int runAt(int region, int place) throws IndexOutOfBoundsException {
        Log log = logWithEntryOrThrow(region, place);
        return 100 * log.firstOf(place) + log.blocksOf(place);
    }

    public boolean allocates(int region, int place) throws IndexOutOfBoundsException {
        return logWithEntryOrThrow(region, place).isAllocation(place);
    }

    public int replay(int region) throws IndexOutOfBoundsException {
        return logOrThrow(region).countReplayed();
    }

    public int condensed() {
        return open.condensations;
    }

    // ---- what the calls above share

    private Dataset datasetOrThrow(int number) {
        Dataset found = open.findDataset(number);
        if (found == null) {
            throw new IndexOutOfBoundsException("no such dataset");
        }
        return found;
    }

    private Snapshot snapshotOrThrow(int number) {
        Snapshot found = open.findSnapshot(number);
        if (found == null) {
            throw new IndexOutOfBoundsException("no such snapshot");
        }
        return found;
    }

    private static int placeOrThrow(int file, int index) {
        if (file < 0 || file >= FILES) {
            throw new IndexOutOfBoundsException("no such file");
        }
        if (index < 0 || index >= INDEXES) {
            throw new IndexOutOfBoundsException("no such index");
        }
        return file * INDEXES + index;
    }

    private static void blockOrThrow(int block) {
        if (block < 0 || block >= BLOCKS) {
            throw new IndexOutOfBoundsException("no such block");
        }
    }

    private static void regionOrThrow(int region) {
        if (region < 0 || region >= REGIONS) {
            throw new IndexOutOfBoundsException("no such region");
        }
    }

    private Log logOrThrow(int region) {
        if (region < 0 || region >= open.logs.length) {
            throw new IndexOutOfBoundsException("no such region");
        }
        return open.logs[region];
    }

    private Log logWithEntryOrThrow(int region, int place) {
        Log log = logOrThrow(region);
        if (place < 0 || place >= log.entries) {
            throw new IndexOutOfBoundsException("no such entry");
        }
        return log;
    }

    // Subtracts instead of adding, because index + count may wrap around.
    private static boolean fits(int index, int count) {
        return count >= 1 && count <= INDEXES - index;
    }

    // Both parts of a reflink may overlap, so what is copied is put aside first.
    private void take(Table table, int from, int count) {
        for (int i = 0; i < count && i < taken.length; i++) {
            taken[i] = table.blockOf(from + i);
        }
    }

    private int closeTransaction() {
        int closed = open.number;
        open.space.releasePending();
        for (int region = 0; region < open.logs.length; region++) {
            if (open.logs[region].record(open.space, committed.space)) {
                open.condensations++;
            }
        }
        open.number = closed + 1;
        committed.copyFrom(open);
        return closed;
    }

    private void countUses(Table table) {
        Arrays.fill(uses, 0);
        for (int place = 0; place < PLACES; place++) {
            int block = table.blockOf(place);
            if (block >= 0 && block < uses.length) {
                uses[block]++;
            }
        }
    }

    // A block of the table is nowhere else if all its references are of this table.
    private int countOwn(Table table) {
        countUses(table);
        int own = 0;
        for (int block = 0; block < uses.length; block++) {
            if (uses[block] > 0 && uses[block] == open.space.usesOf(block)) {
                own++;
            }
        }
        return own;
    }

    /** What a dataset or a snapshot has at each place. */
    private static final class Table {
        private final int[] blocks = new int[PLACES];

        private Table() {
            Arrays.fill(blocks, NONE);
        }

        private int blockOf(int place) {
            return place >= 0 && place < blocks.length ? blocks[place] : NONE;
        }

        private void set(int place, int block) {
            if (place >= 0 && place < blocks.length) {
                blocks[place] = block;
            }
        }

        private void copyFrom(Table other) {
            System.arraycopy(other.blocks, 0, blocks, 0, PLACES);
        }
    }

    private static final class Dataset {
        private final Table table = new Table();
        private boolean exists;
        private int source = NONE;

        private Dataset(boolean exists) {
            this.exists = exists;
        }

        private void copyFrom(Dataset other) {
            table.copyFrom(other.table);
            exists = other.exists;
            source = other.source;
        }
    }

    private static final class Snapshot {
        private final Table table = new Table();
        private boolean exists = false;
        private int number = NONE;
        private int owner = NONE;
        private int rank = 0;
        private int takenIn = 0;

        private boolean belongsTo(int dataset) {
            return exists && owner == dataset;
        }

        private void copyFrom(Snapshot other) {
            table.copyFrom(other.table);
            exists = other.exists;
            number = other.number;
            owner = other.owner;
            rank = other.rank;
            takenIn = other.takenIn;
        }
    }

    /** The blocks: which are allocated, and what those have. */
    private static final class Space {
        private static final int FREE = 0;
        private static final int ALLOCATED = 1;
        private static final int PENDING = 2;

        private final int[] states = new int[BLOCKS];
        private final int[] values = new int[BLOCKS];
        private final int[] births = new int[BLOCKS];
        private final int[] counts = new int[BLOCKS];

        private static boolean isBlock(int block) {
            return block >= 0 && block < BLOCKS;
        }

        private boolean isAllocated(int block) {
            return isBlock(block) && states[block] == ALLOCATED;
        }

        private int valueOf(int block) {
            return isBlock(block) ? values[block] : 0;
        }

        private void setValue(int block, int value) {
            if (isBlock(block)) {
                values[block] = value;
            }
        }

        private int birthOf(int block) {
            return isBlock(block) ? births[block] : 0;
        }

        private boolean bornIn(int block, int transaction) {
            return isAllocated(block) && births[block] == transaction;
        }

        private int usesOf(int block) {
            return isBlock(block) ? counts[block] : 0;
        }

        private void addUse(int block) {
            if (isBlock(block)) {
                counts[block]++;
            }
        }

        private void removeUse(int block) {
            if (isBlock(block)) {
                counts[block]--;
            }
        }

        private void allocate(int block, int value, int transaction) {
            if (isBlock(block)) {
                states[block] = ALLOCATED;
                values[block] = value;
                births[block] = transaction;
            }
        }

        private int count(int state, int from, int to) {
            int found = 0;
            for (int block = from; block < to; block++) {
                if (isBlock(block) && states[block] == state) {
                    found++;
                }
            }
            return found;
        }

        private int freeInRegion(int region) {
            int start = region * REGION_BLOCKS;
            return count(FREE, start, start + REGION_BLOCKS);
        }

        private int emptiestRegion() {
            int best = 0;
            int most = -1;
            for (int region = 0; region < REGIONS; region++) {
                int here = freeInRegion(region);
                if (here > most) {
                    best = region;
                    most = here;
                }
            }
            return best;
        }

        private int nextFreeBlock() {
            int start = emptiestRegion() * REGION_BLOCKS;
            for (int block = start; block < start + REGION_BLOCKS; block++) {
                if (isBlock(block) && states[block] == FREE) {
                    return block;
                }
            }
            return NONE;
        }

        // A crash may need the blocks of earlier transactions again, so these wait for a commit.
        private int retireUnused(int transaction) {
            int lost = 0;
            for (int block = 0; block < BLOCKS; block++) {
                if (states[block] == ALLOCATED && counts[block] == 0) {
                    states[block] = births[block] == transaction ? FREE : PENDING;
                    lost++;
                }
            }
            return lost;
        }

        private void releasePending() {
            for (int block = 0; block < BLOCKS; block++) {
                if (states[block] == PENDING) {
                    states[block] = FREE;
                }
            }
        }

        private void copyFrom(Space other) {
            System.arraycopy(other.states, 0, states, 0, BLOCKS);
            System.arraycopy(other.values, 0, values, 0, BLOCKS);
            System.arraycopy(other.births, 0, births, 0, BLOCKS);
            System.arraycopy(other.counts, 0, counts, 0, BLOCKS);
        }
    }

    /** The space map of a region. */
    private static final class Log {
        private final int start;
        private final int[] firsts = new int[LOG_ENTRIES];
        private final int[] lengths = new int[LOG_ENTRIES];
        private final boolean[] marks = new boolean[LOG_ENTRIES];
        private int entries = 0;
        // One row for each block of the region, used again by what marks blocks and then looks.
        private final boolean[] marked = new boolean[REGION_BLOCKS];

        private Log(int start) {
            this.start = start;
        }

        private static boolean isEntry(int place) {
            return place >= 0 && place < LOG_ENTRIES;
        }

        private int firstOf(int place) {
            return isEntry(place) ? firsts[place] : 0;
        }

        private int blocksOf(int place) {
            return isEntry(place) ? lengths[place] : 0;
        }

        private boolean isAllocation(int place) {
            return isEntry(place) && marks[place];
        }

        /** Logs what a commit changed; tells whether the log was condensed by that. */
        private boolean record(Space now, Space before) {
            markChanges(now, before);
            appendMarkedRuns(true);
            markChanges(before, now);
            appendMarkedRuns(false);
            markAllocated(now);
            if (entries <= 2 * countMarkedRuns() + 2) {
                return false;
            }
            entries = 0;
            appendMarkedRuns(true);
            return true;
        }

        private void markChanges(Space here, Space notHere) {
            for (int i = 0; i < REGION_BLOCKS; i++) {
                marked[i] = here.isAllocated(start + i) && !notHere.isAllocated(start + i);
            }
        }

        private void markAllocated(Space now) {
            for (int i = 0; i < REGION_BLOCKS; i++) {
                marked[i] = now.isAllocated(start + i);
            }
        }

        private int countMarkedRuns() {
            int runs = 0;
            for (int i = 0; i < REGION_BLOCKS; i++) {
                if (marked[i] && (i == 0 || !marked[i - 1])) {
                    runs++;
                }
            }
            return runs;
        }

        private void appendMarkedRuns(boolean allocated) {
            int run = 0;
            for (int i = 0; i < REGION_BLOCKS; i++) {
                if (marked[i]) {
                    run++;
                } else {
                    append(start + i - run, run, allocated);
                    run = 0;
                }
            }
            append(start + REGION_BLOCKS - run, run, allocated);
        }

        private void append(int first, int length, boolean allocated) {
            if (length > 0 && isEntry(entries)) {
                firsts[entries] = first;
                lengths[entries] = length;
                marks[entries] = allocated;
                entries++;
            }
        }

        private int countReplayed() {
            for (int i = 0; i < REGION_BLOCKS; i++) {
                marked[i] = false;
            }
            for (int place = 0; place < entries; place++) {
                replayEntry(place);
            }
            int allocated = 0;
            for (int i = 0; i < REGION_BLOCKS; i++) {
                if (marked[i]) {
                    allocated++;
                }
            }
            return allocated;
        }

        private void replayEntry(int place) {
            int from = firstOf(place) - start;
            int to = from + blocksOf(place);
            for (int i = from; i < to; i++) {
                if (i >= 0 && i < REGION_BLOCKS) {
                    marked[i] = isAllocation(place);
                }
            }
        }

        private void copyFrom(Log other) {
            entries = other.entries;
            for (int place = 0; place < entries && place < LOG_ENTRIES; place++) {
                firsts[place] = other.firsts[place];
                lengths[place] = other.lengths[place];
                marks[place] = other.marks[place];
            }
        }
    }

    /** All that a crash brings back. */
    private static final class Volume {
        private final Dataset[] datasets = new Dataset[DATASETS];
        private final Snapshot[] snapshots = new Snapshot[SNAPSHOTS];
        private final Space space = new Space();
        private final Log[] logs = new Log[REGIONS];
        private int number = 1;
        private int nextSnapshot = 0;
        private int condensations = 0;

        private Volume() {
            for (int d = 0; d < DATASETS; d++) {
                datasets[d] = new Dataset(d == 0);
            }
            for (int s = 0; s < SNAPSHOTS; s++) {
                snapshots[s] = new Snapshot();
            }
            for (int r = 0; r < REGIONS; r++) {
                logs[r] = new Log(r * REGION_BLOCKS);
            }
        }

        private void copyFrom(Volume other) {
            for (int d = 0; d < DATASETS; d++) {
                datasets[d].copyFrom(other.datasets[d]);
            }
            for (int s = 0; s < SNAPSHOTS; s++) {
                snapshots[s].copyFrom(other.snapshots[s]);
            }
            space.copyFrom(other.space);
            for (int r = 0; r < REGIONS; r++) {
                logs[r].copyFrom(other.logs[r]);
            }
            number = other.number;
            nextSnapshot = other.nextSnapshot;
            condensations = other.condensations;
        }

        private Dataset findDataset(int wanted) {
            if (wanted < 0 || wanted >= datasets.length || !datasets[wanted].exists) {
                return null;
            }
            return datasets[wanted];
        }

        private Snapshot findSnapshot(int wanted) {
            for (int s = 0; s < SNAPSHOTS; s++) {
                if (snapshots[s].exists && snapshots[s].number == wanted) {
                    return snapshots[s];
                }
            }
            return null;
        }

        private Snapshot snapshotOfRank(int dataset, int rank) {
            for (int s = 0; s < SNAPSHOTS; s++) {
                if (snapshots[s].belongsTo(dataset) && snapshots[s].rank == rank) {
                    return snapshots[s];
                }
            }
            return null;
        }

        private Snapshot unusedSnapshot() {
            for (int s = 0; s < SNAPSHOTS; s++) {
                if (!snapshots[s].exists) {
                    return snapshots[s];
                }
            }
            return null;
        }

        private int unusedDataset() {
            for (int d = 0; d < DATASETS; d++) {
                if (!datasets[d].exists) {
                    return d;
                }
            }
            return NONE;
        }

        private int countDatasets() {
            int found = 0;
            for (int d = 0; d < DATASETS; d++) {
                if (datasets[d].exists) {
                    found++;
                }
            }
            return found;
        }

        private int snapshotsOf(int dataset) {
            int found = 0;
            for (int s = 0; s < SNAPSHOTS; s++) {
                if (snapshots[s].belongsTo(dataset)) {
                    found++;
                }
            }
            return found;
        }

        private boolean isOrigin(int snapshot) {
            for (int d = 0; d < DATASETS; d++) {
                if (datasets[d].exists && datasets[d].source == snapshot) {
                    return true;
                }
            }
            return false;
        }

        private boolean hasOriginBehind(Snapshot first) {
            for (int s = 0; s < SNAPSHOTS; s++) {
                if (isBehind(snapshots[s], first) && isOrigin(snapshots[s].number)) {
                    return true;
                }
            }
            return false;
        }

        private boolean isBehind(Snapshot one, Snapshot other) {
            return one.belongsTo(other.owner) && one.rank > other.rank;
        }

        // The only way to change a table, so that the references stay counted.
        private void put(Table table, int place, int block) {
            space.removeUse(table.blockOf(place));
            space.addUse(block);
            table.set(place, block);
        }

        private void fill(Table table, Table source) {
            for (int place = 0; place < PLACES; place++) {
                put(table, place, source.blockOf(place));
            }
        }

        private void clear(Table table) {
            for (int place = 0; place < PLACES; place++) {
                put(table, place, NONE);
            }
        }

        // References count as a call leaves them, so each call does this once, at its end.
        private int settle() {
            return space.retireUnused(number);
        }

        private void take(Snapshot taking, Dataset source, int owner) {
            taking.rank = snapshotsOf(owner);
            taking.owner = owner;
            taking.number = nextSnapshot;
            taking.takenIn = number;
            taking.exists = true;
            fill(taking.table, source.table);
            nextSnapshot++;
        }

        private void branch(int dataset, Snapshot source) {
            if (dataset >= 0 && dataset < datasets.length) {
                datasets[dataset].exists = true;
                datasets[dataset].source = source.number;
                fill(datasets[dataset].table, source.table);
            }
        }

        private void drop(Snapshot old) {
            for (int s = 0; s < SNAPSHOTS; s++) {
                if (isBehind(snapshots[s], old)) {
                    snapshots[s].rank--;
                }
            }
            clear(old.table);
            old.exists = false;
        }

        private int dropBehind(Snapshot kept) {
            int dropped = 0;
            for (int s = 0; s < SNAPSHOTS; s++) {
                if (isBehind(snapshots[s], kept)) {
                    drop(snapshots[s]);
                    dropped++;
                }
            }
            return dropped;
        }

        /** Gives a clone the snapshots of its origin's dataset up to that origin. */
        private void handOver(Snapshot last, int clone) {
            int giver = last.owner;
            int moved = last.rank + 1;
            for (int s = 0; s < SNAPSHOTS; s++) {
                if (snapshots[s].belongsTo(clone)) {
                    snapshots[s].rank += moved;
                } else if (snapshots[s].belongsTo(giver) && snapshots[s].rank < moved) {
                    snapshots[s].owner = clone;
                } else if (snapshots[s].belongsTo(giver)) {
                    snapshots[s].rank -= moved;
                }
            }
        }
    }
}
