import java.util.ArrayList;
import java.util.List;
import java.util.function.ToLongFunction;

/**
 * "A call that throws changes nothing (but next, as said)", for each call and each of its exceptions:
 * of two objects with the same calls behind them one gets the refused call too, and then both are
 * asked for all that can be told of them.
 */
public final class RefusalTest extends Checks {
    private static final String SENTENCE = "a call that throws changes nothing";
    private static final int[] BAG = keysOfOneHash("0000", 6);
    private static final int SEVENTH = key("0000", 6);

    private interface Maker {
        SnapshotTrie make();
    }

    public static void main(String[] args) {
        runTestsOf(RefusalTest.class);
    }

    // Promise 2

    @Says(where = "Terms and Promise 2", words = SENTENCE)
    static void putIntoNoMap() {
        dueUnchanged(RefusalTest::lively, ARGUMENT, trie -> flag(trie.put(3, 1, 1)));
        dueUnchanged(RefusalTest::lively, ARGUMENT, trie -> flag(trie.put(-1, 1, 1)));
    }

    @Says(where = "Terms and Promise 2", words = SENTENCE)
    static void putIntoAReadOnlyMap() {
        dueUnchanged(RefusalTest::lively, UNSUPPORTED, trie -> flag(trie.put(1, key("3000"), 1)));
        dueUnchanged(RefusalTest::lively, UNSUPPORTED, trie -> flag(trie.put(1, BAG[0], 77)));
    }

    @Says(where = "Terms and Promise 2", words = SENTENCE)
    static void putOfA61stKey() {
        dueUnchanged(RefusalTest::full, STATE, trie -> flag(trie.put(0, key("3330"), 1)));
        dueUnchanged(RefusalTest::full, STATE, trie -> flag(trie.put(0, key("0000", 1), 1)));
    }

    @Says(where = "Terms and Promise 2", words = SENTENCE)
    static void putOfASeventhEntry() {
        dueUnchanged(RefusalTest::lively, STATE, trie -> flag(trie.put(0, SEVENTH, 1)));
        dueUnchanged(RefusalTest::lively, STATE, trie -> flag(trie.put(2, SEVENTH, 1)));
    }

    // Promise 3

    @Says(where = "Terms and Promise 3", words = SENTENCE)
    static void getFromNoMap() {
        dueUnchanged(RefusalTest::lively, ARGUMENT, trie -> trie.get(3, BAG[0]));
    }

    @Says(where = "Terms and Promise 3", words = SENTENCE)
    static void getOfNoKey() {
        dueUnchanged(RefusalTest::lively, NO_ELEMENT, trie -> trie.get(2, SEVENTH));
        dueUnchanged(RefusalTest::lively, NO_ELEMENT, trie -> trie.get(1, key("3000")));
    }

    // Promise 4

    @Says(where = "Terms and Promise 4", words = SENTENCE)
    static void removeFromNoMap() {
        dueUnchanged(RefusalTest::lively, ARGUMENT, trie -> trie.remove(3, BAG[0]));
    }

    @Says(where = "Terms and Promise 4", words = SENTENCE)
    static void removeFromAReadOnlyMap() {
        dueUnchanged(RefusalTest::lively, UNSUPPORTED, trie -> trie.remove(1, BAG[0]));
        dueUnchanged(RefusalTest::lively, UNSUPPORTED, trie -> trie.remove(1, SEVENTH));
    }

    @Says(where = "Terms and Promise 4", words = SENTENCE)
    static void removeOfNoKey() {
        dueUnchanged(RefusalTest::lively, NO_ELEMENT, trie -> trie.remove(2, SEVENTH));
        dueUnchanged(RefusalTest::lively, NO_ELEMENT, trie -> trie.remove(2, key("1100")));
        dueUnchanged(RefusalTest::lively, NO_ELEMENT, trie -> trie.remove(2, key("3000")));
    }

    // Promise 5

    @Says(where = "Terms and Promise 5", words = SENTENCE)
    static void replaceInNoMap() {
        dueUnchanged(RefusalTest::lively, ARGUMENT, trie -> flag(trie.replace(3, BAG[0], 1, 2)));
    }

    @Says(where = "Terms and Promise 5", words = SENTENCE)
    static void replaceInAReadOnlyMap() {
        dueUnchanged(RefusalTest::lively, UNSUPPORTED, trie -> flag(trie.replace(1, BAG[0], 1, 2)));
        dueUnchanged(RefusalTest::lively, UNSUPPORTED, trie -> flag(trie.replace(1, BAG[0], 5, 2)));
    }

    // Promise 6

    @Says(where = "Terms and Promise 6", words = SENTENCE)
    static void snapshotOfNoMap() {
        dueUnchanged(RefusalTest::lively, ARGUMENT, trie -> trie.snapshot(3, false));
        dueUnchanged(RefusalTest::lively, ARGUMENT, trie -> trie.snapshot(6, true));
    }

    @Says(where = "Terms and Promise 6", words = SENTENCE)
    static void snapshotWhenThereAreSixMaps() {
        dueUnchanged(RefusalTest::withSixMaps, STATE, trie -> trie.snapshot(0, false));
        dueUnchanged(RefusalTest::withSixMaps, STATE, trie -> trie.snapshot(5, true));
    }

    // Promise 7

    @Says(where = "Terms and Promise 7", words = SENTENCE)
    static void dropOfNoMap() {
        dueUnchanged(RefusalTest::lively, ARGUMENT, trie -> trie.drop(3));
        dueUnchanged(RefusalTest::lively, ARGUMENT, trie -> trie.drop(-1));
    }

    @Says(where = "Terms and Promise 7", words = SENTENCE)
    static void dropOfMap0() {
        dueUnchanged(RefusalTest::lively, STATE, trie -> trie.drop(0));
        dueUnchanged(SnapshotTrie::new, STATE, trie -> trie.drop(0));
    }

    // Promise 8

    @Says(where = "Terms and Promise 8", words = SENTENCE)
    static void iterateOverNoMap() {
        dueUnchanged(RefusalTest::lively, ARGUMENT, trie -> trie.iterate(3));
        dueUnchanged(RefusalTest::lively, ARGUMENT, trie -> trie.iterate(6));
    }

    @Says(where = "Terms and Promise 8", words = SENTENCE)
    static void iterateWhenThereAreFour() {
        dueUnchanged(RefusalTest::withFourIterators, STATE, trie -> trie.iterate(0));
        dueUnchanged(RefusalTest::withFourIterators, STATE, trie -> trie.iterate(1));
    }

    // Promise 9

    @Says(where = "Terms and Promise 9", words = SENTENCE)
    static void nextOfNoIterator() {
        for (int iterator : new int[] {-1, 2, 3, 4}) {
            dueUnchanged(RefusalTest::lively, ARGUMENT, trie -> trie.next(iterator));
        }
    }

    @Says(where = "Terms and Promise 9", words = "changes nothing (but next, as said): it is free then")
    static void nextAtItsEndFreesItsIteratorAlone() {
        SnapshotTrie asked = atTheEndOfIterator0();
        SnapshotTrie unasked = atTheEndOfIterator0();
        dueThrow("the end", NO_ELEMENT, () -> asked.next(0));
        due("what is told of the maps", toldOfMaps(unasked).toString(), toldOfMaps(asked).toString());
        due("the other iterator", drain(unasked, 1), drain(asked, 1));
        dueThrow("there is none then", ARGUMENT, () -> asked.next(0));
        due("its number is free", 0, asked.iterate(0));
        due("but not before", 1, unasked.iterate(0));
    }

    // Promises 12, 13 and 14

    @Says(where = "Terms and Promise 12", words = SENTENCE)
    static void measureOfNoMapOrWhat() {
        dueUnchanged(RefusalTest::lively, ARGUMENT, trie -> trie.measure(3, 0));
        dueUnchanged(RefusalTest::lively, ARGUMENT, trie -> trie.measure(0, 5));
        dueUnchanged(RefusalTest::lively, ARGUMENT, trie -> trie.measure(0, -1));
    }

    @Says(where = "Terms and Promise 13", words = SENTENCE)
    static void commonOfNoMap() {
        dueUnchanged(RefusalTest::lively, ARGUMENT, trie -> trie.common(3, 0));
        dueUnchanged(RefusalTest::lively, ARGUMENT, trie -> trie.common(0, 3));
    }

    @Says(where = "Terms and Promise 14", words = SENTENCE)
    static void generationOfNoMap() {
        dueUnchanged(RefusalTest::lively, ARGUMENT, trie -> trie.generation(3));
    }

    private static void dueUnchanged(Maker maker, String exception, ToLongFunction<SnapshotTrie> refused) {
        SnapshotTrie asked = maker.make();
        SnapshotTrie unasked = maker.make();
        dueThrow("the call", exception, () -> refused.applyAsLong(asked));
        due("all that can be told", allThatCanBeTold(unasked), allThatCanBeTold(asked));
    }

    /** Writable maps 0 and 2, a read-only map 1, a full bag, iterators 0 and 1 on their way, a value and a copy. */
    private static SnapshotTrie lively() {
        SnapshotTrie trie = trieOf(BAG);
        putAll(trie, 0, key("1000"), key("1200"), key("2000"));
        trie.snapshot(0, true);
        trie.snapshot(0, false);
        trie.iterate(0);
        trie.iterate(1);
        trie.next(0);
        trie.next(1);
        trie.next(1);
        trie.put(0, key("1000"), 9);
        return trie;
    }

    private static SnapshotTrie withSixMaps() {
        SnapshotTrie trie = lively();
        for (int map = 3; map <= 5; map++) {
            trie.snapshot(0, map == 4);
        }
        return trie;
    }

    private static SnapshotTrie withFourIterators() {
        SnapshotTrie trie = lively();
        trie.iterate(2);
        trie.iterate(0);
        return trie;
    }

    private static SnapshotTrie atTheEndOfIterator0() {
        SnapshotTrie trie = lively();
        for (int left = 8; left > 0; left--) {
            trie.next(0);
        }
        return trie;
    }

    /** The nodes are shared, so that a copy made too early shows. */
    private static SnapshotTrie full() {
        SnapshotTrie trie = trieOf(keysOfManyHashes(60));
        trie.snapshot(0, false);
        return trie;
    }

    private static String allThatCanBeTold(SnapshotTrie trie) {
        List<Object> told = toldOfMaps(trie);
        for (int iterator = 0; iterator <= 3; iterator++) {
            told.add(drain(trie, iterator));
        }
        for (int map = 0; map <= 5; map++) {
            int over = map;
            told.add(thrownBy(() -> trie.iterate(over)));
            told.add(drain(trie, 0));
            told.add(thrownBy(() -> flag(trie.replace(over, BAG[0], 1, 1))));
            told.add(trie.copied());
        }
        told.add(thrownBy(() -> trie.snapshot(0, false)));
        told.add(trie.generation(0));
        return told.toString();
    }

    private static List<Object> toldOfMaps(SnapshotTrie trie) {
        List<Object> told = new ArrayList<>();
        told.add(trie.copied());
        told.add(trie.value());
        for (int map = 0; map <= 5; map++) {
            tellOfMap(trie, map, told);
        }
        return told;
    }

    private static void tellOfMap(SnapshotTrie trie, int map, List<Object> told) {
        told.add(thrownBy(() -> trie.generation(map)));
        for (int what = 0; what <= 4; what++) {
            int asked = what;
            told.add(thrownBy(() -> trie.measure(map, asked)));
        }
        for (int other = 0; other < map; other++) {
            int second = other;
            told.add(thrownBy(() -> trie.common(map, second)));
        }
    }

    /** What an iterator gives yet, key and value, and how it ends. */
    private static String drain(SnapshotTrie trie, int iterator) {
        StringBuilder given = new StringBuilder();
        String latest = thrownBy(() -> trie.next(iterator));
        for (int count = 0; count <= 60 && !latest.endsWith("Exception"); count++) {
            given.append(latest).append('=').append(trie.value()).append(' ');
            latest = thrownBy(() -> trie.next(iterator));
        }
        return given + latest;
    }
}
