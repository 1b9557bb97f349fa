import java.util.NoSuchElementException;

/**
 * Maps from ints to longs that share what they have in common: a trie whose nodes belong to
 * generations. A map writes only into nodes of its own generation and copies others first, so a
 * snapshot or an iterator keeps what it has by nothing more than the map's getting a new generation.
 */
public final class SnapshotTrie {
    public static final int NONE = -1;

    private static final int MOST_MAPS = 6;
    private static final int MOST_ITERATORS = 4;
    private static final int MOST_KEYS = 60;

    private static final int PLACES = 4;
    private static final int BAG_LEVEL = 4;
    private static final int BAG_PLACES = 6;

    private static final int HASH_FACTOR = -1640531535;
    private static final int HASH_SHIFT = 24;
    private static final int FIRST_DIGIT_SHIFT = 6;
    private static final int DIGIT_BITS = 2;
    private static final int DIGIT_MASK = 3;

    /** Far above the places of all the nodes that 60 keys can have; it only makes the loop's end plain. */
    private static final int MOST_STEPS = 1000000;

    private static final int WHAT_KEYS = 0;
    private static final int WHAT_NODES = 1;
    private static final int WHAT_BAGS = 2;
    private static final int WHAT_LEVELS = 3;
    private static final int WHAT_OWN_NODES = 4;

    /** A place is null when there is no map of its number. */
    private final TrieMap[] maps;
    /** A place is null when its number is free. */
    private final Cursor[] cursors;
    private int latestGeneration;
    private int latestCopies;
    private long latestValue;

    public SnapshotTrie() {
        maps = new TrieMap[MOST_MAPS];
        cursors = new Cursor[MOST_ITERATORS];
        latestGeneration = 1;
        maps[0] = new TrieMap(new Node(latestGeneration, 0), latestGeneration, false);
    }

    public boolean put(int map, int key, long value)
            throws IllegalArgumentException, UnsupportedOperationException, IllegalStateException {
        TrieMap target = writableMap(map);
        boolean isNew = find(target.root, key) == null;
        if (isNew && !hasRoomFor(target.root, key)) {
            throw new IllegalStateException();
        }
        write(target, new Entry(key, value));
        return isNew;
    }

    public long get(int map, int key) throws IllegalArgumentException, NoSuchElementException {
        return presentEntry(existingMap(map), key).value;
    }

    public long remove(int map, int key)
            throws IllegalArgumentException, UnsupportedOperationException, NoSuchElementException {
        TrieMap target = writableMap(map);
        Entry entry = presentEntry(target, key);
        latestCopies = ownWay(target, key);
        takeOut(target.root, 0, key);
        return entry.value;
    }

    public boolean replace(int map, int key, long old, long value)
            throws IllegalArgumentException, UnsupportedOperationException {
        TrieMap target = writableMap(map);
        Entry entry = find(target.root, key);
        if (entry == null || entry.value != old) {
            latestCopies = 0;
            return false;
        }
        write(target, new Entry(key, value));
        return true;
    }

    public int snapshot(int map, boolean readOnly) throws IllegalArgumentException, IllegalStateException {
        TrieMap source = existingMap(map);
        int number = leastMissingMap();
        if (number == NONE) {
            throw new IllegalStateException();
        }
        source.generation = newGeneration();
        maps[number] = new TrieMap(source.root, newGeneration(), readOnly);
        return number;
    }

    public int drop(int map) throws IllegalArgumentException, IllegalStateException {
        TrieMap dropped = existingMap(map);
        if (map == 0) {
            throw new IllegalStateException();
        }
        maps[map] = null;
        return countKeys(dropped.root);
    }

    public int iterate(int map) throws IllegalArgumentException, IllegalStateException {
        TrieMap source = existingMap(map);
        int number = leastFreeCursor();
        if (number == NONE) {
            throw new IllegalStateException();
        }
        source.generation = newGeneration();
        cursors[number] = new Cursor(source.root);
        return number;
    }

    public int next(int iterator) throws IllegalArgumentException, NoSuchElementException {
        Entry entry = existingCursor(iterator).advance();
        if (entry == null) {
            cursors[iterator] = null;
            throw new NoSuchElementException();
        }
        latestValue = entry.value;
        return entry.key;
    }

    public long value() {
        return latestValue;
    }

    public int copied() {
        return latestCopies;
    }

    public int measure(int map, int what) throws IllegalArgumentException {
        TrieMap measured = existingMap(map);
        Tally tally = new Tally(measured.generation);
        addUp(measured.root, 0, tally);
        switch (what) {
            case WHAT_KEYS:
                return tally.keys;
            case WHAT_NODES:
                return tally.nodes;
            case WHAT_BAGS:
                return tally.bags;
            case WHAT_LEVELS:
                return tally.levels;
            case WHAT_OWN_NODES:
                return tally.ownNodes;
            default:
                throw new IllegalArgumentException();
        }
    }

    public int common(int a, int b) throws IllegalArgumentException {
        return countShared(existingMap(a).root, existingMap(b).root, 0);
    }

    public int generation(int map) throws IllegalArgumentException {
        return existingMap(map).generation;
    }

    private TrieMap existingMap(int map) {
        if (map < 0 || map >= maps.length || maps[map] == null) {
            throw new IllegalArgumentException();
        }
        return maps[map];
    }

    private TrieMap writableMap(int map) {
        TrieMap found = existingMap(map);
        if (found.readOnly) {
            throw new UnsupportedOperationException();
        }
        return found;
    }

    private Cursor existingCursor(int iterator) {
        if (iterator < 0 || iterator >= cursors.length || cursors[iterator] == null) {
            throw new IllegalArgumentException();
        }
        return cursors[iterator];
    }

    private int leastMissingMap() {
        for (int number = 0; number < maps.length; number++) {
            if (maps[number] == null) {
                return number;
            }
        }
        return NONE;
    }

    private int leastFreeCursor() {
        for (int number = 0; number < cursors.length; number++) {
            if (cursors[number] == null) {
                return number;
            }
        }
        return NONE;
    }

    private int newGeneration() {
        latestGeneration++;
        return latestGeneration;
    }

    private void write(TrieMap target, Entry entry) {
        latestCopies = ownWay(target, entry.key);
        putIn(target.root, entry, target.generation);
    }

    private static int digit(int key, int level) {
        int hash = (key * HASH_FACTOR) >>> HASH_SHIFT;
        return (hash >>> (FIRST_DIGIT_SHIFT - DIGIT_BITS * level)) & DIGIT_MASK;
    }

    private static Entry presentEntry(TrieMap map, int key) {
        Entry entry = find(map.root, key);
        if (entry == null) {
            throw new NoSuchElementException();
        }
        return entry;
    }

    private static Entry find(Node root, int key) {
        Node node = root;
        for (int level = 0; level < BAG_LEVEL; level++) {
            int at = digit(key, level);
            Node below = node.nodes[at];
            if (below == null) {
                Entry entry = node.entries[at];
                return entry != null && entry.key == key ? entry : null;
            }
            node = below;
        }
        int at = node.placeInBag(key);
        return at == NONE ? null : node.entries[at];
    }

    /** For a key that is not there. */
    private static boolean hasRoomFor(Node root, int key) {
        if (countKeys(root) >= MOST_KEYS) {
            return false;
        }
        Node node = root;
        for (int level = 0; level < BAG_LEVEL; level++) {
            node = node.nodes[digit(key, level)];
            if (node == null) {
                return true;
            }
        }
        return node.countEntries() < BAG_PLACES;
    }

    /**
     * Makes every node on the key's way one of the map's generation, before anything changes in
     * them: so a node counts as copied even when the same call then removes it.
     */
    private static int ownWay(TrieMap map, int key) {
        int copies = 0;
        if (map.root.generation != map.generation) {
            map.root = copyOf(map.root, map.generation, 0);
            copies++;
        }
        Node above = map.root;
        for (int level = 0; level < BAG_LEVEL; level++) {
            int at = digit(key, level);
            Node node = above.nodes[at];
            if (node == null) {
                break;
            }
            if (node.generation != map.generation) {
                node = copyOf(node, map.generation, level + 1);
                above.nodes[at] = node;
                copies++;
            }
            above = node;
        }
        return copies;
    }

    private static Node copyOf(Node node, int generation, int level) {
        Node copy = new Node(generation, level);
        for (int at = 0; at < copy.entries.length; at++) {
            copy.entries[at] = node.entryAt(at);
        }
        for (int at = 0; at < copy.nodes.length; at++) {
            copy.nodes[at] = node.nodeAt(at);
        }
        return copy;
    }

    /** The nodes on the entry's way belong to the generation already. */
    private static void putIn(Node root, Entry entry, int generation) {
        Node node = root;
        for (int level = 0; level < BAG_LEVEL; level++) {
            int at = digit(entry.key, level);
            Node below = node.nodes[at];
            if (below == null) {
                putAt(node, at, level, entry, generation);
                return;
            }
            node = below;
        }
        node.putInBag(entry);
    }

    private static void putAt(Node node, int at, int level, Entry entry, int generation) {
        Entry there = node.entries[at];
        if (there == null || there.key == entry.key) {
            node.entries[at] = entry;
            return;
        }
        node.entries[at] = null;
        node.nodes[at] = nodeOfTwo(there, entry, generation, level + 1);
    }

    private static Node nodeOfTwo(Entry first, Entry second, int generation, int level) {
        Node node = new Node(generation, level);
        if (level >= BAG_LEVEL) {
            node.putInBag(first);
            node.putInBag(second);
            return node;
        }
        int firstAt = digit(first.key, level);
        int secondAt = digit(second.key, level);
        if (firstAt == secondAt) {
            node.nodes[firstAt] = nodeOfTwo(first, second, generation, level + 1);
        } else {
            node.entries[firstAt] = first;
            node.entries[secondAt] = second;
        }
        return node;
    }

    /** The key is there, and the nodes on its way may be written into. */
    private static void takeOut(Node node, int level, int key) {
        if (level >= BAG_LEVEL) {
            node.takeOutOfBag(key);
            return;
        }
        int at = digit(key, level);
        Node below = node.nodes[at];
        if (below == null) {
            node.entries[at] = null;
            return;
        }
        takeOut(below, level + 1, key);
        Entry last = below.onlyEntry();
        if (last != null) {
            node.nodes[at] = null;
            node.entries[at] = last;
        }
    }

    private static int countKeys(Node root) {
        Tally tally = new Tally(NONE);
        addUp(root, 0, tally);
        return tally.keys;
    }

    private static void addUp(Node node, int level, Tally tally) {
        if (node == null || level > BAG_LEVEL) {
            return;
        }
        tally.add(node, level);
        for (int at = 0; at < node.nodes.length; at++) {
            addUp(node.nodes[at], level + 1, tally);
        }
    }

    /** A copy takes the place of what it copies, so a shared node stands at the same place in both. */
    private static int countShared(Node a, Node b, int level) {
        if (a == null || b == null || level > BAG_LEVEL) {
            return 0;
        }
        int shared = a == b ? 1 : 0;
        for (int at = 0; at < a.nodes.length; at++) {
            shared += countShared(a.nodes[at], b.nodeAt(at), level + 1);
        }
        return shared;
    }

    /** Never changes, so that copies of a node can share it. */
    private static final class Entry {
        final int key;
        final long value;

        Entry(int key, long value) {
            this.key = key;
            this.value = value;
        }
    }

    /** A place has an entry, a node or neither; a bag has no nodes, and its entries stand without gaps. */
    private static final class Node {
        final int generation;
        final Entry[] entries;
        final Node[] nodes;

        Node(int generation, int level) {
            boolean isBag = level >= BAG_LEVEL;
            this.generation = generation;
            entries = new Entry[isBag ? BAG_PLACES : PLACES];
            nodes = new Node[isBag ? 0 : PLACES];
        }

        Entry entryAt(int at) {
            return at >= 0 && at < entries.length ? entries[at] : null;
        }

        Node nodeAt(int at) {
            return at >= 0 && at < nodes.length ? nodes[at] : null;
        }

        int countEntries() {
            int count = 0;
            for (int at = 0; at < entries.length; at++) {
                if (entries[at] != null) {
                    count++;
                }
            }
            return count;
        }

        /** Null when there are more entries than one, or a node. */
        Entry onlyEntry() {
            for (int at = 0; at < nodes.length; at++) {
                if (nodes[at] != null) {
                    return null;
                }
            }
            Entry only = null;
            for (int at = 0; at < entries.length; at++) {
                if (entries[at] != null && only != null) {
                    return null;
                }
                only = entries[at] != null ? entries[at] : only;
            }
            return only;
        }

        int placeInBag(int key) {
            for (int at = 0; at < entries.length; at++) {
                if (entries[at] != null && entries[at].key == key) {
                    return at;
                }
            }
            return NONE;
        }

        void putInBag(Entry entry) {
            int there = placeInBag(entry.key);
            int at = there != NONE ? there : countEntries();
            if (at < entries.length) {
                entries[at] = entry;
            }
        }

        /** Those behind move up, for a bag keeps the order in which its entries came. */
        void takeOutOfBag(int key) {
            int from = placeInBag(key);
            if (from == NONE) {
                return;
            }
            for (int at = from; at < entries.length; at++) {
                entries[at] = entryAt(at + 1);
            }
        }
    }

    private static final class TrieMap {
        Node root;
        int generation;
        final boolean readOnly;

        TrieMap(Node root, int generation, boolean readOnly) {
            this.root = root;
            this.generation = generation;
            this.readOnly = readOnly;
        }
    }

    /** An iterator: the way from its root to where it stands, and the next place to look at in each node of it. */
    private static final class Cursor {
        final Node[] way;
        final int[] places;
        int level;

        Cursor(Node root) {
            way = new Node[BAG_LEVEL + 1];
            places = new int[BAG_LEVEL + 1];
            way[0] = root;
            level = 0;
        }

        /** Null when there is no further entry. */
        Entry advance() {
            for (int step = 0; step < MOST_STEPS && level >= 0; step++) {
                Node node = way[level];
                int at = places[level];
                if (node == null || at >= node.entries.length) {
                    level--;
                    continue;
                }
                places[level] = at + 1;
                if (node.entries[at] != null) {
                    return node.entries[at];
                }
                goInto(node.nodeAt(at));
            }
            return null;
        }

        private void goInto(Node node) {
            if (node != null && level < BAG_LEVEL) {
                level++;
                way[level] = node;
                places[level] = 0;
            }
        }
    }

    /** What a walk over the nodes of a map adds up. */
    private static final class Tally {
        final int generation;
        int keys;
        int nodes;
        int bags;
        int levels;
        int ownNodes;

        Tally(int generation) {
            this.generation = generation;
        }

        void add(Node node, int level) {
            keys += node.countEntries();
            nodes++;
            bags += level == BAG_LEVEL ? 1 : 0;
            levels = Math.max(levels, level + 1);
            ownNodes += node.generation == generation ? 1 : 0;
        }
    }
}
