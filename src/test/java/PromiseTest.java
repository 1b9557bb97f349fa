/** Each promise of the document by hand-made runs: ordinary inputs, the edges, wrong inputs. */
public final class PromiseTest extends Checks {
    private static final int[] NO_MAPS = {-1, 6, 1, 5, Integer.MIN_VALUE, Integer.MAX_VALUE};
    private static final int[] NO_ITERATORS = {-1, 0, 3, 4, Integer.MIN_VALUE, Integer.MAX_VALUE};

    public static void main(String[] args) {
        runTestsOf(PromiseTest.class);
    }

    // Promise 1

    @Says(where = "Promise 1", words = "a new object")
    static void newObject() {
        SnapshotTrie trie = new SnapshotTrie();
        due("NONE", -1, SnapshotTrie.NONE);
        dueMeasures(trie, 0, 0, 1, 0, 1, 1);
        due("generation", 1, trie.generation(0));
        due("copied", 0, trie.copied());
        due("value", 0, trie.value());
        for (int map = 1; map < 6; map++) {
            int missing = map;
            dueThrow("map " + map, ARGUMENT, () -> trie.generation(missing));
        }
        for (int iterator = 0; iterator < 4; iterator++) {
            int missing = iterator;
            dueThrow("iterator " + iterator, ARGUMENT, () -> trie.next(missing));
        }
        trie.put(0, 1, 1);
        dueThrow("another object's key", NO_ELEMENT, () -> new SnapshotTrie().get(0, 1));
    }

    // Promise 2

    @Says(where = "Promise 2", words = "put")
    static void putAnswers() {
        SnapshotTrie trie = new SnapshotTrie();
        due("a new key", 1, flag(trie.put(0, 7, 70)));
        due("a known key", 0, flag(trie.put(0, 7, 71)));
        due("its value", 71, trie.get(0, 7));
        due("the least key", 1, flag(trie.put(0, Integer.MIN_VALUE, Long.MIN_VALUE)));
        due("the greatest key", 1, flag(trie.put(0, Integer.MAX_VALUE, Long.MAX_VALUE)));
        due("the least value", Long.MIN_VALUE, trie.get(0, Integer.MIN_VALUE));
        due("the greatest value", Long.MAX_VALUE, trie.get(0, Integer.MAX_VALUE));
        for (int map : NO_MAPS) {
            dueThrow("put into map " + map, ARGUMENT, () -> flag(trie.put(map, 1, 1)));
        }
        trie.snapshot(0, true);
        dueThrow("put into a read-only map", UNSUPPORTED, () -> flag(trie.put(1, 7, 1)));
        due("which keeps its value", 71, trie.get(1, 7));
    }

    @Says(where = "Promise 2", words = "put, nodes")
    static void putMakesNodes() {
        SnapshotTrie trie = new SnapshotTrie();
        trie.put(0, key("0000", 0), 1);
        dueMeasures(trie, 0, 1, 1, 0, 1, 1);
        trie.put(0, key("1000", 0), 2);
        dueMeasures(trie, 0, 2, 1, 0, 1, 1);
        trie.put(0, key("0100", 0), 3);
        dueMeasures(trie, 0, 3, 2, 0, 2, 2);
        trie.put(0, key("0001", 0), 4);
        dueMeasures(trie, 0, 4, 4, 0, 4, 4);
        trie.put(0, key("1003", 0), 5);
        dueMeasures(trie, 0, 5, 7, 0, 4, 7);
    }

    @Says(where = "Promise 2", words = "put, bags")
    static void putMakesBags() {
        SnapshotTrie trie = new SnapshotTrie();
        trie.put(0, key("3210", 1), 1);
        trie.put(0, key("3210", 0), 2);
        dueMeasures(trie, 0, 2, 5, 1, 5, 5);
        trie.put(0, key("3210", 2), 3);
        trie.put(0, key("3210", 1), 4);
        dueMeasures(trie, 0, 3, 5, 1, 5, 5);
        dueOrder(trie, 0, key("3210", 1), key("3210", 0), key("3210", 2));
        due("the value put once more", 4, trie.get(0, key("3210", 1)));
    }

    @Says(where = "Promise 2", words = "put, a full bag")
    static void putRefusesASeventhInABag() {
        SnapshotTrie trie = new SnapshotTrie();
        for (int i = 0; i < 6; i++) {
            due("entry " + i, 1, flag(trie.put(0, key("1111", i), i)));
        }
        trie.snapshot(0, false);
        dueThrow("a seventh entry", STATE, () -> flag(trie.put(0, key("1111", 6), 6)));
        dueThrow("is not there", NO_ELEMENT, () -> trie.get(0, key("1111", 6)));
        due("nothing was copied", 5, trie.common(0, 1));
        due("a known key", 0, flag(trie.put(0, key("1111", 5), 50)));
        due("another hash", 1, flag(trie.put(0, key("1112", 0), 7)));
        due("removing one", 0, trie.remove(0, key("1111", 0)));
        due("makes room", 1, flag(trie.put(0, key("1111", 6), 6)));
    }

    @Says(where = "Promise 2", words = "put, a full map")
    static void putRefusesASixtyFirstKey() {
        SnapshotTrie trie = new SnapshotTrie();
        for (int i = 0; i < 60; i++) {
            due("key " + i, 1, flag(trie.put(0, i, i)));
        }
        trie.snapshot(0, false);
        int nodes = trie.measure(0, 1);
        dueThrow("a key more", STATE, () -> flag(trie.put(0, 60, 60)));
        due("keys", 60, trie.measure(0, 0));
        due("nothing was copied", nodes, trie.common(0, 1));
        due("a known key", 0, flag(trie.put(0, 59, 1)));
        due("removing one", 3, trie.remove(0, 3));
        due("makes room", 1, flag(trie.put(0, 60, 60)));
        dueThrow("the snapshot is full too", STATE, () -> flag(trie.put(1, 60, 60)));
    }

    @Says(where = "Promise 2", words = "put, the same value")
    static void putWritesTheSameValue() {
        SnapshotTrie trie = new SnapshotTrie();
        trie.put(0, 1, 1);
        trie.snapshot(0, false);
        due("the key is known", 0, flag(trie.put(0, 1, 1)));
        due("copied", 1, trie.copied());
        due("common", 0, trie.common(0, 1));
    }

    // Promise 3

    @Says(where = "Promise 3", words = "get")
    static void get() {
        SnapshotTrie trie = new SnapshotTrie();
        dueThrow("an empty map", NO_ELEMENT, () -> trie.get(0, 0));
        trie.put(0, key("2000", 0), 5);
        due("a key", 5, trie.get(0, key("2000", 0)));
        dueThrow("another key of its hash", NO_ELEMENT, () -> trie.get(0, key("2000", 1)));
        dueThrow("an empty place", NO_ELEMENT, () -> trie.get(0, key("1000", 0)));
        trie.put(0, key("2000", 1), 6);
        due("first of a bag", 5, trie.get(0, key("2000", 0)));
        due("second of a bag", 6, trie.get(0, key("2000", 1)));
        dueThrow("not in the bag", NO_ELEMENT, () -> trie.get(0, key("2000", 2)));
        for (int map : NO_MAPS) {
            dueThrow("get from map " + map, ARGUMENT, () -> trie.get(map, key("2000", 0)));
        }
        trie.snapshot(0, true);
        due("from a read-only map", 6, trie.get(1, key("2000", 1)));
    }

    // Promise 4

    @Says(where = "Promise 4", words = "remove")
    static void removeAnswers() {
        SnapshotTrie trie = new SnapshotTrie();
        dueThrow("from an empty map", NO_ELEMENT, () -> trie.remove(0, 1));
        trie.put(0, 1, -9);
        due("its value", -9, trie.remove(0, 1));
        dueThrow("once more", NO_ELEMENT, () -> trie.remove(0, 1));
        dueThrow("get", NO_ELEMENT, () -> trie.get(0, 1));
        dueMeasures(trie, 0, 0, 1, 0, 1, 1);
        due("the key is new again", 1, flag(trie.put(0, 1, 4)));
        for (int map : NO_MAPS) {
            dueThrow("remove from map " + map, ARGUMENT, () -> trie.remove(map, 1));
        }
        trie.snapshot(0, true);
        dueThrow("remove from a read-only map", UNSUPPORTED, () -> trie.remove(1, 1));
        due("which keeps it", 4, trie.get(1, 1));
    }

    @Says(where = "Promise 4", words = "remove, nodes leave")
    static void removeCollapses() {
        SnapshotTrie trie = new SnapshotTrie();
        trie.put(0, key("0000", 0), 1);
        trie.put(0, key("0000", 1), 2);
        dueMeasures(trie, 0, 2, 5, 1, 5, 5);
        due("value", 1, trie.remove(0, key("0000", 0)));
        dueMeasures(trie, 0, 1, 1, 0, 1, 1);
        due("the other stays", 2, trie.get(0, key("0000", 1)));
        due("value", 2, trie.remove(0, key("0000", 1)));
        dueMeasures(trie, 0, 0, 1, 0, 1, 1);
    }

    @Says(where = "Promise 4", words = "remove, nodes stay")
    static void removeStopsCollapsingAtANode() {
        SnapshotTrie trie = new SnapshotTrie();
        trie.put(0, key("0000", 0), 1);
        trie.put(0, key("0001", 0), 2);
        trie.put(0, key("0020", 0), 3);
        dueMeasures(trie, 0, 3, 4, 0, 4, 4);
        due("beside a node", 3, trie.remove(0, key("0020", 0)));
        dueMeasures(trie, 0, 2, 4, 0, 4, 4);
        trie.put(0, key("0200", 0), 4);
        due("below an entry", 1, trie.remove(0, key("0000", 0)));
        dueMeasures(trie, 0, 2, 2, 0, 2, 2);
        dueOrder(trie, 0, key("0001", 0), key("0200", 0));
    }

    @Says(where = "Promise 4", words = "remove, a bag")
    static void removeFromABagKeepsTheOrder() {
        SnapshotTrie trie = new SnapshotTrie();
        for (int i = 0; i < 6; i++) {
            trie.put(0, key("0123", i), i);
        }
        trie.remove(0, key("0123", 2));
        trie.remove(0, key("0123", 5));
        trie.remove(0, key("0123", 0));
        trie.put(0, key("0123", 2), 22);
        dueOrder(trie, 0, key("0123", 1), key("0123", 3), key("0123", 4), key("0123", 2));
    }

    @Says(where = "Promise 4", words = "remove, copies before")
    static void removeCopiesWhatLeaves() {
        SnapshotTrie trie = new SnapshotTrie();
        trie.put(0, key("0000", 0), 1);
        trie.put(0, key("0000", 1), 2);
        trie.snapshot(0, false);
        trie.remove(0, key("0000", 1));
        due("copied", 5, trie.copied());
        dueMeasures(trie, 0, 1, 1, 0, 1, 1);
        dueMeasures(trie, 1, 2, 5, 1, 5, 0);
    }

    // Promise 5

    @Says(where = "Promise 5", words = "replace")
    static void replace() {
        SnapshotTrie trie = new SnapshotTrie();
        due("a key that is not there", 0, flag(trie.replace(0, 1, 0, 5)));
        dueThrow("and is not put", NO_ELEMENT, () -> trie.get(0, 1));
        trie.put(0, 1, 5);
        due("another value", 0, flag(trie.replace(0, 1, 4, 6)));
        due("stays", 5, trie.get(0, 1));
        due("the value", 1, flag(trie.replace(0, 1, 5, 1L << 32)));
        due("is new", 1L << 32, trie.get(0, 1));
        due("alike in the low bits alone", 0, flag(trie.replace(0, 1, 0, 6)));
        trie.snapshot(0, false);
        due("nothing to be done", 0, flag(trie.replace(0, 1, 0, 6)));
        due("copied", 0, trie.copied());
        due("common", 1, trie.common(0, 1));
        due("by the same value", 1, flag(trie.replace(0, 1, 1L << 32, 1L << 32)));
        due("copied", 1, trie.copied());
        for (int map : new int[] {-1, 6, 2, Integer.MIN_VALUE, Integer.MAX_VALUE}) {
            dueThrow("replace in map " + map, ARGUMENT, () -> flag(trie.replace(map, 1, 0, 0)));
        }
        trie.snapshot(0, true);
        dueThrow("replace in a read-only map", UNSUPPORTED, () -> flag(trie.replace(2, 1, 1L << 32, 0)));
        dueThrow("what is not there", UNSUPPORTED, () -> flag(trie.replace(2, 2, 0, 0)));
    }

    // Promise 6

    @Says(where = "Promise 6", words = "snapshot")
    static void snapshotNumbers() {
        SnapshotTrie trie = new SnapshotTrie();
        for (int map = 1; map < 6; map++) {
            due("the least number", map, trie.snapshot(map / 2, map % 2 == 0));
        }
        dueThrow("a seventh map", STATE, () -> trie.snapshot(0, false));
        due("no new generation", 2, trie.generation(0));
        trie.drop(4);
        trie.drop(2);
        due("the least number that there is not", 2, trie.snapshot(5, false));
        due("and the next", 4, trie.snapshot(5, false));
        due("eleven generations before these two", 15, trie.generation(4));
        for (int map : new int[] {-1, 6, Integer.MIN_VALUE, Integer.MAX_VALUE}) {
            dueThrow("snapshot of map " + map, ARGUMENT, () -> trie.snapshot(map, false));
        }
        trie.drop(3);
        dueThrow("snapshot of a dropped map", ARGUMENT, () -> trie.snapshot(3, false));
    }

    @Says(where = "Promise 6", words = "snapshot, later writes")
    static void snapshotIsolates() {
        SnapshotTrie trie = new SnapshotTrie();
        trie.put(0, 1, 10);
        trie.put(0, 2, 20);
        trie.snapshot(0, false);
        trie.put(0, 1, 11);
        trie.remove(1, 2);
        trie.put(1, 3, 30);
        due("the map's own", 11, trie.get(0, 1));
        due("the snapshot's own", 10, trie.get(1, 1));
        due("removed in the snapshot alone", 20, trie.get(0, 2));
        dueThrow("removed", NO_ELEMENT, () -> trie.get(1, 2));
        dueThrow("put into the snapshot alone", NO_ELEMENT, () -> trie.get(0, 3));
        due("keys", 2, trie.measure(0, 0));
        due("keys", 2, trie.measure(1, 0));
    }

    @Says(where = "Promise 6", words = "snapshot, read-only")
    static void snapshotOfAReadOnlyMap() {
        SnapshotTrie trie = new SnapshotTrie();
        trie.put(0, 1, 10);
        trie.snapshot(0, true);
        trie.snapshot(1, false);
        due("the read-only map has a new generation too", 4, trie.generation(1));
        due("and the new one", 5, trie.generation(2));
        due("can be written", 1, flag(trie.put(2, 2, 20)));
        due("the first is no read-only one", 1, flag(trie.put(0, 2, 20)));
        dueThrow("nothing can be written", UNSUPPORTED, () -> flag(trie.put(1, 2, 20)));
        trie.drop(1);
        due("its number again", 1, trie.snapshot(0, false));
        due("is no read-only one", 1, flag(trie.put(1, 3, 30)));
    }

    // Promise 7

    @Says(where = "Promise 7", words = "drop")
    static void drop() {
        SnapshotTrie trie = new SnapshotTrie();
        trie.put(0, 1, 10);
        trie.put(0, 2, 20);
        dueThrow("map 0", STATE, () -> trie.drop(0));
        due("map 0 stays", 10, trie.get(0, 1));
        for (int map : NO_MAPS) {
            dueThrow("drop map " + map, ARGUMENT, () -> trie.drop(map));
        }
        trie.snapshot(0, true);
        trie.put(0, 3, 30);
        due("how many keys it had", 2, trie.drop(1));
        dueThrow("it is no more", ARGUMENT, () -> trie.get(1, 1));
        dueThrow("once more", ARGUMENT, () -> trie.drop(1));
        due("the other one stays", 3, trie.measure(0, 0));
        due("its generation is not used again", 4, generationOfSnapshot(trie));
    }

    private static long generationOfSnapshot(SnapshotTrie trie) {
        trie.snapshot(0, false);
        return trie.generation(1) - 1;
    }

    // Promise 8

    @Says(where = "Promise 8", words = "iterate")
    static void iterateNumbers() {
        SnapshotTrie trie = new SnapshotTrie();
        trie.put(0, 1, 10);
        for (int iterator = 0; iterator < 4; iterator++) {
            due("the least free number", iterator, trie.iterate(0));
            due("a new generation", iterator + 2, trie.generation(0));
        }
        dueThrow("a fifth iterator", STATE, () -> trie.iterate(0));
        due("no new generation", 5, trie.generation(0));
        endIterator(trie, 2);
        endIterator(trie, 1);
        due("the least one again", 1, trie.iterate(0));
        due("and the next", 2, trie.iterate(0));
        endIterator(trie, 3);
        for (int map : NO_MAPS) {
            dueThrow("iterate over map " + map, ARGUMENT, () -> trie.iterate(map));
        }
        trie.snapshot(0, true);
        due("over a read-only map", 3, trie.iterate(1));
        due("which gets a new generation", 10, trie.generation(1));
    }

    private static void endIterator(SnapshotTrie trie, int iterator) {
        due("its key", 1, trie.next(iterator));
        dueThrow("its end", NO_ELEMENT, () -> trie.next(iterator));
    }

    @Says(where = "Promise 8", words = "iterate, order")
    static void iterateOrder() {
        SnapshotTrie trie = new SnapshotTrie();
        int[] order = {key("0000", 1), key("0000", 0), key("0003", 0), key("0100", 0), key("1000", 0),
            key("2220", 0), key("2221", 1), key("2221", 2), key("2221", 0), key("2230", 0), key("3333", 0)};
        int[] coming = {10, 6, 0, 7, 3, 1, 9, 8, 4, 5, 2};
        for (int at : coming) {
            trie.put(0, order[at], at);
        }
        dueOrder(trie, 0, order);
    }

    @Says(where = "Promise 8", words = "iterate, later writes")
    static void iteratorsDoNotSeeWrites() {
        SnapshotTrie trie = new SnapshotTrie();
        int[] keys = {key("0000", 0), key("0000", 1), key("0000", 2), key("3000", 0)};
        for (int at = 0; at < keys.length; at++) {
            trie.put(0, keys[at], at);
        }
        int iterator = trie.iterate(0);
        due("first", keys[0], trie.next(iterator));
        trie.remove(0, keys[1]);
        trie.put(0, keys[2], 99);
        trie.put(0, key("1000", 0), 5);
        trie.remove(0, keys[3]);
        due("removed since", keys[1], trie.next(iterator));
        due("written since", keys[2], trie.next(iterator));
        due("its value then", 2, trie.value());
        due("last", keys[3], trie.next(iterator));
        dueThrow("the end", NO_ELEMENT, () -> trie.next(iterator));
        int copy = trie.snapshot(0, false);
        int other = trie.iterate(copy);
        trie.drop(copy);
        due("of a map that is no more", keys[0], trie.next(other));
    }

    // Promise 9

    @Says(where = "Promise 9", words = "next")
    static void next() {
        SnapshotTrie trie = new SnapshotTrie();
        for (int iterator : NO_ITERATORS) {
            dueThrow("next of iterator " + iterator, ARGUMENT, () -> trie.next(iterator));
        }
        trie.iterate(0);
        dueThrow("over an empty map", NO_ELEMENT, () -> trie.next(0));
        dueThrow("it is free then", ARGUMENT, () -> trie.next(0));
        trie.put(0, key("1000", 0), 10);
        trie.put(0, key("2000", 0), 20);
        trie.iterate(0);
        trie.iterate(0);
        due("the first's first", key("1000", 0), trie.next(0));
        due("the second's first", key("1000", 0), trie.next(1));
        due("the first's second", key("2000", 0), trie.next(0));
        dueThrow("iterators not made", ARGUMENT, () -> trie.next(2));
        dueThrow("the first's end", NO_ELEMENT, () -> trie.next(0));
        due("the first is free", 0, trie.iterate(0));
        due("the second's second", key("2000", 0), trie.next(1));
        due("the new one begins anew", key("1000", 0), trie.next(0));
    }

    // Promise 10

    @Says(where = "Promise 10", words = "value")
    static void value() {
        SnapshotTrie trie = new SnapshotTrie();
        trie.put(0, key("1000", 0), Long.MIN_VALUE);
        trie.put(0, key("2000", 0), 20);
        trie.iterate(0);
        trie.iterate(0);
        due("none came", 0, trie.value());
        trie.next(0);
        due("the first", Long.MIN_VALUE, trie.value());
        trie.next(0);
        due("the second", 20, trie.value());
        trie.next(1);
        due("another iterator's", Long.MIN_VALUE, trie.value());
        dueThrow("the end", NO_ELEMENT, () -> trie.next(0));
        dueThrow("no iterator", ARGUMENT, () -> trie.next(0));
        trie.put(0, key("1000", 0), 5);
        trie.get(0, key("2000", 0));
        due("as before", Long.MIN_VALUE, trie.value());
    }

    // Promise 11

    @Says(where = "Promise 11", words = "copied")
    static void copied() {
        SnapshotTrie trie = new SnapshotTrie();
        trie.put(0, key("0000", 0), 1);
        trie.put(0, key("0000", 1), 2);
        due("new nodes are no copies", 0, trie.copied());
        trie.snapshot(0, false);
        trie.put(0, key("0100", 0), 3);
        due("two nodes on the way", 2, trie.copied());
        trie.get(0, key("0100", 0));
        trie.measure(0, 1);
        trie.iterate(1);
        due("other calls leave it", 2, trie.copied());
        trie.put(0, key("0000", 2), 4);
        due("those that were shared yet", 3, trie.copied());
        trie.put(0, key("0000", 0), 5);
        due("none any more", 0, trie.copied());
        trie.replace(1, key("0000", 0), 1, 6);
        due("all in the other map", 5, trie.copied());
        trie.iterate(1);
        trie.remove(1, key("0000", 0));
        due("and after an iterator began", 5, trie.copied());
        trie.replace(1, key("0000", 0), 6, 7);
        due("nothing to be done", 0, trie.copied());
    }

    @Says(where = "Promise 11", words = "copied, calls that throw")
    static void copiedStaysWhenACallThrows() {
        SnapshotTrie trie = new SnapshotTrie();
        for (int i = 0; i < 6; i++) {
            trie.put(0, key("0000", i), i);
        }
        trie.snapshot(0, true);
        trie.put(0, key("0000", 0), 0);
        dueThrow("put", STATE, () -> flag(trie.put(0, key("0000", 6), 1)));
        dueThrow("put", UNSUPPORTED, () -> flag(trie.put(1, 1, 1)));
        dueThrow("put", ARGUMENT, () -> flag(trie.put(2, 1, 1)));
        dueThrow("remove", NO_ELEMENT, () -> trie.remove(0, key("0000", 6)));
        dueThrow("replace", UNSUPPORTED, () -> flag(trie.replace(1, 1, 1, 1)));
        due("copied", 5, trie.copied());
    }

    // Promise 12

    @Says(where = "Promise 12", words = "measure")
    static void measure() {
        SnapshotTrie trie = new SnapshotTrie();
        for (int what : new int[] {-1, 5, Integer.MIN_VALUE, Integer.MAX_VALUE}) {
            dueThrow("measure " + what, ARGUMENT, () -> trie.measure(0, what));
        }
        for (int map : NO_MAPS) {
            dueThrow("of map " + map, ARGUMENT, () -> trie.measure(map, 0));
        }
        trie.put(0, key("0000", 0), 1);
        trie.put(0, key("0000", 1), 2);
        trie.put(0, key("0001", 0), 3);
        trie.put(0, key("0001", 1), 4);
        trie.put(0, key("3000", 0), 5);
        trie.put(0, key("3100", 0), 6);
        dueMeasures(trie, 0, 6, 7, 2, 5, 7);
        trie.snapshot(0, false);
        dueMeasures(trie, 0, 6, 7, 2, 5, 0);
        dueMeasures(trie, 1, 6, 7, 2, 5, 0);
        trie.put(0, key("3100", 1), 7);
        dueMeasures(trie, 0, 7, 10, 3, 5, 5);
        trie.remove(1, key("0001", 0));
        dueMeasures(trie, 1, 5, 6, 1, 5, 4);
        dueMeasures(trie, 0, 7, 10, 3, 5, 5);
    }

    // Promise 13

    @Says(where = "Promise 13", words = "common")
    static void common() {
        SnapshotTrie trie = new SnapshotTrie();
        trie.put(0, key("0000", 0), 1);
        trie.put(0, key("0000", 1), 2);
        trie.put(0, key("1000", 0), 3);
        trie.put(0, key("1100", 0), 4);
        due("with itself", 6, trie.common(0, 0));
        trie.snapshot(0, false);
        due("all", 6, trie.common(0, 1));
        trie.put(0, key("1200", 0), 5);
        due("but those on the way", 4, trie.common(0, 1));
        due("the other way round", 4, trie.common(1, 0));
        trie.put(1, key("1200", 0), 5);
        due("the same entries in other nodes", 4, trie.common(0, 1));
        trie.put(1, key("0010", 0), 6);
        due("below a copied node", 2, trie.common(0, 1));
        trie.remove(0, key("0000", 0));
        due("none", 0, trie.common(0, 1));
        for (int map : new int[] {-1, 6, 2, Integer.MIN_VALUE, Integer.MAX_VALUE}) {
            dueThrow("a missing a", ARGUMENT, () -> trie.common(map, 0));
            dueThrow("a missing b", ARGUMENT, () -> trie.common(0, map));
            dueThrow("both missing", ARGUMENT, () -> trie.common(map, map));
        }
    }

    // Promise 14

    @Says(where = "Promise 14", words = "generation")
    static void generation() {
        SnapshotTrie trie = new SnapshotTrie();
        due("at first", 1, trie.generation(0));
        trie.put(0, 1, 1);
        due("after a write", 1, trie.generation(0));
        trie.snapshot(0, false);
        due("the map first", 2, trie.generation(0));
        due("then the new one", 3, trie.generation(1));
        trie.iterate(1);
        due("iterated over", 4, trie.generation(1));
        trie.snapshot(1, true);
        due("the map first", 5, trie.generation(1));
        due("then the new one", 6, trie.generation(2));
        trie.put(0, 1, 2);
        due("none but these", 2, trie.generation(0));
        trie.drop(2);
        dueThrow("a dropped map", ARGUMENT, () -> trie.generation(2));
        trie.snapshot(0, false);
        due("never used again", 8, trie.generation(2));
        for (int map : new int[] {-1, 6, 3, Integer.MIN_VALUE, Integer.MAX_VALUE}) {
            dueThrow("generation of map " + map, ARGUMENT, () -> trie.generation(map));
        }
    }

    @Says(where = "Promises 2 to 8", words = "several exceptions")
    static void theFirstNamedExceptionIsThrown() {
        SnapshotTrie trie = new SnapshotTrie();
        for (int i = 0; i < 60; i++) {
            trie.put(0, i, i);
        }
        trie.snapshot(0, true);
        dueThrow("read-only before full", UNSUPPORTED, () -> flag(trie.put(1, 60, 0)));
        dueThrow("read-only before a missing key", UNSUPPORTED, () -> trie.remove(1, 60));
        for (int i = 0; i < 4; i++) {
            trie.snapshot(0, false);
            trie.iterate(0);
        }
        dueThrow("no map before six maps", ARGUMENT, () -> trie.snapshot(6, false));
        dueThrow("no map before four iterators", ARGUMENT, () -> trie.iterate(6));
    }
}
