import java.util.ArrayList;
import java.util.HashSet;
import java.util.List;
import java.util.Map;
import java.util.Set;
import java.util.TreeMap;
import java.util.TreeSet;

/**
 * The document, told once more in the plainest way, to compare the program with: nothing is
 * counted on the way, every question is answered from the tables anew.
 */
final class PlainVolume {
    private static final class Block {
        int value;
        int birth;
    }

    private static final class Snap {
        int number;
        int transaction;
        Integer[] table;
    }

    private static final class Tree {
        Integer[] table = new Integer[128];
        List<Snap> snaps = new ArrayList<>();
        int origin = -1;
    }

    private record Entry(int first, int blocks, boolean allocated) {
    }

    private static final class State {
        TreeMap<Integer, Tree> trees = new TreeMap<>();
        TreeMap<Integer, Block> blocks = new TreeMap<>();
        TreeSet<Integer> pending = new TreeSet<>();
        List<List<Entry>> logs = new ArrayList<>();
        int transaction = 1;
        int nextSnap = 0;
        int condensed = 0;

        State copy() {
            State copy = new State();
            for (Map.Entry<Integer, Tree> each : trees.entrySet()) {
                Tree tree = new Tree();
                tree.table = each.getValue().table.clone();
                tree.snaps = new ArrayList<>(each.getValue().snaps);
                tree.origin = each.getValue().origin;
                copy.trees.put(each.getKey(), tree);
            }
            for (Map.Entry<Integer, Block> each : blocks.entrySet()) {
                Block block = new Block();
                block.value = each.getValue().value;
                block.birth = each.getValue().birth;
                copy.blocks.put(each.getKey(), block);
            }
            copy.pending.addAll(pending);
            for (List<Entry> log : logs) {
                copy.logs.add(new ArrayList<>(log));
            }
            copy.transaction = transaction;
            copy.nextSnap = nextSnap;
            copy.condensed = condensed;
            return copy;
        }
    }

    private State now = new State();
    private State kept;

    PlainVolume() {
        now.trees.put(0, new Tree());
        for (int region = 0; region < 4; region++) {
            now.logs.add(new ArrayList<>());
        }
        kept = now.copy();
    }

    PlainVolume copy() {
        PlainVolume copy = new PlainVolume();
        copy.now = now.copy();
        copy.kept = kept.copy();
        return copy;
    }

    /** Answers a call as Run.ask does. */
    String ask(String name, int[] a) {
        try {
            if (name.equals("allocates")) {
                return String.valueOf(entry(a[0], a[1]).allocated());
            }
            return String.valueOf(answer(name, a));
        } catch (IndexOutOfBoundsException e) {
            return "throws.IndexOutOfBoundsException";
        } catch (IllegalArgumentException e) {
            return "throws.IllegalArgumentException";
        } catch (IllegalStateException e) {
            return "throws.IllegalStateException";
        }
    }

    private int answer(String name, int[] a) {
        return switch (name) {
            case "write" -> write(tree(a[0]), place(a[1], a[2]), a[3]);
            case "read" -> value(tree(a[0]).table[place(a[1], a[2])]);
            case "blockAt" -> number(tree(a[0]).table[place(a[1], a[2])]);
            case "length" -> length(tree(a[0]), place(a[1], 0));
            case "punch" -> punch(tree(a[0]), place(a[1], a[2]), a[2], a[3]);
            case "reflink" -> reflink(tree(a[0]), a);
            case "commit" -> commit();
            case "crash" -> crash();
            case "transaction" -> now.transaction;
            case "snapshot" -> snapshot(tree(a[0]));
            case "readSnapshot" -> value(snap(a[0]).table[place(a[1], a[2])]);
            case "blockInSnapshot" -> number(snap(a[0]).table[place(a[1], a[2])]);
            case "transactionOf" -> snap(a[0]).transaction;
            case "datasetOf" -> ownerOf(snap(a[0]));
            case "snapshots" -> tree(a[0]).snaps.size();
            case "snapshotAt" -> snapshotAt(tree(a[0]), a[1]);
            case "destroySnapshot" -> destroySnapshot(snap(a[0]));
            case "rollback" -> rollback(tree(a[0]), snap(a[1]));
            case "changed" -> changed(snap(a[0]).table, tree(a[1]).table);
            default -> answerMore(name, a);
        };
    }

    private int answerMore(String name, int[] a) {
        return switch (name) {
            case "datasets" -> now.trees.size();
            case "makeClone" -> makeClone(snap(a[0]));
            case "origin" -> tree(a[0]).origin;
            case "promote" -> promote(tree(a[0]));
            case "destroy" -> destroy(tree(a[0]), a[0]);
            case "referenced" -> blocksOf(tree(a[0]).table).size();
            case "unique" -> unique(tree(a[0]).table);
            case "uniqueOfSnapshot" -> unique(snap(a[0]).table);
            case "newer" -> newer(tree(a[0]), a[1]);
            case "birth" -> birth(block(a[0]));
            case "references" -> references(block(a[0]));
            case "free" -> freeFrom(0, 128).size();
            case "pending" -> now.pending.size();
            case "freeIn" -> freeFrom(32 * region(a[0]), 32).size();
            case "logEntries" -> now.logs.get(region(a[0])).size();
            case "runAt" -> 100 * entry(a[0], a[1]).first() + entry(a[0], a[1]).blocks();
            case "replay" -> replay(region(a[0]));
            case "condensed" -> now.condensed;
            default -> throw new UnsupportedOperationException(name);
        };
    }

    // ---- the arguments

    private static void demand(boolean holds) {
        if (!holds) {
            throw new IndexOutOfBoundsException();
        }
    }

    private Tree tree(int number) {
        demand(now.trees.containsKey(number));
        return now.trees.get(number);
    }

    private Snap snap(int number) {
        Snap found = null;
        for (Tree tree : now.trees.values()) {
            for (Snap snap : tree.snaps) {
                found = snap.number == number ? snap : found;
            }
        }
        demand(found != null);
        return found;
    }

    private static int place(int file, int index) {
        demand(file >= 0 && file <= 7 && index >= 0 && index <= 15);
        return 16 * file + index;
    }

    private static int block(int number) {
        demand(number >= 0 && number <= 127);
        return number;
    }

    private static int region(int number) {
        demand(number >= 0 && number <= 3);
        return number;
    }

    private Entry entry(int region, int place) {
        List<Entry> log = now.logs.get(region(region));
        demand(place >= 0 && place < log.size());
        return log.get(place);
    }

    private static void demandFit(int index, int count) {
        if (count < 1 || (long) index + count > 16) {
            throw new IllegalArgumentException();
        }
    }

    private static void demandState(boolean holds) {
        if (!holds) {
            throw new IllegalStateException();
        }
    }

    // ---- the tables

    private List<Integer[]> tables() {
        List<Integer[]> all = new ArrayList<>();
        for (Tree tree : now.trees.values()) {
            all.add(tree.table);
            for (Snap snap : tree.snaps) {
                all.add(snap.table);
            }
        }
        return all;
    }

    private int references(int block) {
        int found = 0;
        for (Integer[] table : tables()) {
            for (Integer each : table) {
                found += each != null && each == block ? 1 : 0;
            }
        }
        return found;
    }

    private static Set<Integer> blocksOf(Integer[] table) {
        Set<Integer> blocks = new HashSet<>();
        for (Integer each : table) {
            if (each != null) {
                blocks.add(each);
            }
        }
        return blocks;
    }

    /** Lets the blocks go that have no reference any more; returns how many. */
    private int letGo() {
        Set<Integer> needed = new HashSet<>();
        for (Integer[] table : tables()) {
            needed.addAll(blocksOf(table));
        }
        Set<Integer> lost = new TreeSet<>(now.blocks.keySet());
        lost.removeAll(needed);
        for (int block : lost) {
            if (now.blocks.get(block).birth != now.transaction) {
                now.pending.add(block);
            }
            now.blocks.remove(block);
        }
        return lost.size();
    }

    private List<Integer> freeFrom(int first, int count) {
        List<Integer> found = new ArrayList<>();
        for (int block = first; block < first + count; block++) {
            if (!now.blocks.containsKey(block) && !now.pending.contains(block)) {
                found.add(block);
            }
        }
        return found;
    }

    private int value(Integer block) {
        return block == null ? 0 : now.blocks.get(block).value;
    }

    private static int number(Integer block) {
        return block == null ? -1 : block;
    }

    // ---- the calls

    private int write(Tree tree, int place, int value) {
        Integer old = tree.table[place];
        if (old == null || now.blocks.get(old).birth != now.transaction || references(old) > 1) {
            List<Integer> choice = new ArrayList<>();
            for (int region = 0; region < 4; region++) {
                List<Integer> here = freeFrom(32 * region, 32);
                choice = here.size() > choice.size() ? here : choice;
            }
            demandState(!choice.isEmpty());
            tree.table[place] = choice.get(0);
            now.blocks.put(choice.get(0), new Block());
            now.blocks.get(choice.get(0)).birth = now.transaction;
        }
        now.blocks.get(tree.table[place]).value = value;
        letGo();
        return tree.table[place];
    }

    private int length(Tree tree, int start) {
        int length = 16;
        while (length > 0 && tree.table[start + length - 1] == null) {
            length--;
        }
        return length;
    }

    private int punch(Tree tree, int start, int index, int count) {
        demandFit(index, count);
        int had = 0;
        for (int place = start; place < start + count; place++) {
            had += tree.table[place] != null ? 1 : 0;
            tree.table[place] = null;
        }
        letGo();
        return had;
    }

    private int reflink(Tree tree, int[] a) {
        int from = place(a[1], a[2]);
        int to = place(a[3], a[4]);
        demandFit(a[2], a[5]);
        demandFit(a[4], a[5]);
        Integer[] before = tree.table.clone();
        for (int i = 0; i < a[5]; i++) {
            tree.table[to + i] = before[from + i];
        }
        letGo();
        return changed(before, tree.table);
    }

    private int changed(Integer[] one, Integer[] other) {
        int different = 0;
        for (int place = 0; place < 128; place++) {
            different += number(one[place]) != number(other[place]) ? 1 : 0;
        }
        return different;
    }

    private int commit() {
        now.pending.clear();
        Set<Integer> after = now.blocks.keySet();
        Set<Integer> before = kept.blocks.keySet();
        for (int region = 0; region < 4; region++) {
            Set<Integer> come = new TreeSet<>(after);
            come.removeAll(before);
            Set<Integer> gone = new TreeSet<>(before);
            gone.removeAll(after);
            List<Entry> log = now.logs.get(region);
            log.addAll(runs(come, region, true));
            log.addAll(runs(gone, region, false));
            List<Entry> shortest = runs(after, region, true);
            if (log.size() - 2 * shortest.size() > 2) {
                now.logs.set(region, shortest);
                now.condensed++;
            }
        }
        int closed = now.transaction++;
        kept = now.copy();
        return closed;
    }

    private static List<Entry> runs(Set<Integer> blocks, int region, boolean allocated) {
        List<Entry> runs = new ArrayList<>();
        int block = 32 * region;
        while (block < 32 * region + 32) {
            int end = block;
            while (end < 32 * region + 32 && blocks.contains(end)) {
                end++;
            }
            if (end > block) {
                runs.add(new Entry(block, end - block, allocated));
            }
            block = end + 1;
        }
        return runs;
    }

    private int crash() {
        now = kept.copy();
        return now.transaction;
    }

    private int snapshot(Tree tree) {
        int all = 0;
        for (Tree each : now.trees.values()) {
            all += each.snaps.size();
        }
        demandState(all < 12);
        Snap snap = new Snap();
        snap.number = now.nextSnap++;
        snap.transaction = now.transaction;
        snap.table = tree.table.clone();
        tree.snaps.add(snap);
        commit();
        return snap.number;
    }

    private int ownerOf(Snap snap) {
        for (int number : now.trees.keySet()) {
            if (now.trees.get(number).snaps.contains(snap)) {
                return number;
            }
        }
        throw new UnsupportedOperationException();
    }

    private int snapshotAt(Tree tree, int place) {
        demand(place >= 0 && place < tree.snaps.size());
        return tree.snaps.get(place).number;
    }

    private boolean isOrigin(Snap snap) {
        for (Tree tree : now.trees.values()) {
            if (tree.origin == snap.number) {
                return true;
            }
        }
        return false;
    }

    private int destroySnapshot(Snap snap) {
        demandState(!isOrigin(snap));
        now.trees.get(ownerOf(snap)).snaps.remove(snap);
        return letGo();
    }

    private int rollback(Tree tree, Snap snap) {
        int place = tree.snaps.indexOf(snap);
        if (place < 0) {
            throw new IllegalArgumentException();
        }
        List<Snap> behind = tree.snaps.subList(place + 1, tree.snaps.size());
        for (Snap each : behind) {
            demandState(!isOrigin(each));
        }
        int count = behind.size();
        behind.clear();
        tree.table = snap.table.clone();
        letGo();
        return count;
    }

    private int makeClone(Snap snap) {
        demandState(now.trees.size() < 6);
        int number = 0;
        while (now.trees.containsKey(number)) {
            number++;
        }
        Tree tree = new Tree();
        tree.table = snap.table.clone();
        tree.origin = snap.number;
        now.trees.put(number, tree);
        return number;
    }

    private int promote(Tree tree) {
        demandState(tree.origin != -1);
        Snap origin = snap(tree.origin);
        Tree other = now.trees.get(ownerOf(origin));
        List<Snap> ahead = other.snaps.subList(0, other.snaps.indexOf(origin) + 1);
        tree.snaps.addAll(0, ahead);
        ahead.clear();
        tree.origin = other.origin;
        other.origin = origin.number;
        return tree.snaps.size();
    }

    private int destroy(Tree tree, int number) {
        demandState(tree.snaps.isEmpty() && now.trees.size() > 1);
        now.trees.remove(number);
        return letGo();
    }

    private int unique(Integer[] table) {
        Set<Integer> own = blocksOf(table);
        for (Integer[] other : tables()) {
            if (other != table) {
                own.removeAll(blocksOf(other));
            }
        }
        return own.size();
    }

    private int newer(Tree tree, int transaction) {
        int found = 0;
        for (Integer block : tree.table) {
            found += block != null && now.blocks.get(block).birth > transaction ? 1 : 0;
        }
        return found;
    }

    private int birth(int block) {
        demandState(now.blocks.containsKey(block));
        return now.blocks.get(block).birth;
    }

    private int replay(int region) {
        Set<Integer> allocated = new HashSet<>();
        for (Entry entry : now.logs.get(region)) {
            for (int block = entry.first(); block < entry.first() + entry.blocks(); block++) {
                if (entry.allocated()) {
                    allocated.add(block);
                } else {
                    allocated.remove(block);
                }
            }
        }
        return allocated.size();
    }
}
