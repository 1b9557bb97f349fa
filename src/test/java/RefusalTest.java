import java.util.ArrayList;
import java.util.List;
import java.util.function.ToLongFunction;

/**
 * "A call that throws changes nothing (but next, as said)", for each call and each of its exceptions:
 * of two objects with the same calls behind them one gets the refused call too, and then both are
 * asked for all that can be told of them.
 */
public final class RefusalTest extends Checks {
    private static final String SENTENCE = "a call that throws changes nothing";
    private static final int[] BAG = keysOfOneHash("0000", 6);
    private static final int SEVENTH = key("0000", 6);

    private interface Maker {
        SnapshotTrie make();
    }

    public static void main(String[] args) {
        runTestsOf(RefusalTest.class);
    }

    // Promise 2

    @Says(where = "Terms and Promise 2", words = SENTENCE)
    static void putIntoNoMap() {
        dueUnchanged(RefusalTest::lively, ARGUMENT, trie -> flag(trie.put(3, 1, 1)));
        dueUnchanged(RefusalTest::lively, ARGUMENT, trie -> flag(trie.put(-1, 1, 1)));
    }

    @Says(where = "Terms and Promise 2", words = SENTENCE)
    static void putIntoAReadOnlyMap() {
        dueUnchanged(RefusalTest::lively, UNSUPPORTED, trie -> flag(trie.put(1, key("3000"), 1)));
        dueUnchanged(RefusalTest::lively, UNSUPPORTED, trie -> flag(trie.put(1, BAG[0], 77)));
    }

    @Says(where = "Terms and Promise 2", words = SENTENCE)
    static void putOfA61stKey() {
        dueUnchanged(RefusalTest::full, STATE, trie -> flag(trie.put(0, key("3330"), 1)));
        dueUnchanged(RefusalTest::full, STATE, trie -> flag(trie.put(0, key("0000", 1), 1)));
    }

    @Says(where = "Terms and Promise 2", words = SENTENCE)
    static void putOfASeventhEntry() {
        dueUnchanged(RefusalTest::lively, STATE, trie -> flag(trie.put(0, SEVENTH, 1)));
        dueUnchanged(RefusalTest::lively, STATE, trie -> flag(trie.put(2, SEVENTH, 1)));
    }

    // Promise 3

    @Says(where = "Terms and Promise 3", words = SENTENCE)
    static void getFromNoMap() {
        dueUnchanged(RefusalTest::lively, ARGUMENT, trie -> trie.get(3, BAG[0]));
    }

    @Says(where = "Terms and Promise 3", words = SENTENCE)
    static void getOfNoKey() {
        dueUnchanged(RefusalTest::lively, NO_ELEMENT, trie -> trie.get(2, SEVENTH));
        dueUnchanged(RefusalTest::lively, NO_ELEMENT, trie -> trie.get(1, key("3000")));
    }

    // Promise 4

    @Says(where = "Terms and Promise 4", words = SENTENCE)
    static void removeFromNoMap() {
        dueUnchanged(RefusalTest::lively, ARGUMENT, trie -> trie.remove(3, BAG[0]));
    }

    @Says(where = "Terms and Promise 4", words = SENTENCE)
    static void removeFromAReadOnlyMap() {
        dueUnchanged(RefusalTest::lively, UNSUPPORTED, trie -> trie.remove(1, BAG[0]));
        dueUnchanged(RefusalTest::lively, UNSUPPORTED, trie -> trie.remove(1, SEVENTH));
    }

    @Says(where = "Terms and Promise 4", words = SENTENCE)
    static void removeOfNoKey() {
        dueUnchanged(RefusalTest::lively, NO_ELEMENT, trie -> trie.remove(2, SEVENTH));
        dueUnchanged(RefusalTest::lively, NO_ELEMENT, trie -> trie.remove(2, key("1100")));
        dueUnchanged(RefusalTest::lively, NO_ELEMENT, trie -> trie.remove(2, key("3000")));
    }

    // Promise 5

    @Says(where = "Terms and Promise 5", words = SENTENCE)
    static void replaceInNoMap() {
        dueUnchanged(RefusalTest::lively, ARGUMENT, trie -> flag(trie.replace(3, BAG[0], 1, 2)));
    }

    @Says(where = "Terms and Promise 5", words = SENTENCE)
    static void replaceInAReadOnlyMap() {
        dueUnchanged(RefusalTest::lively, UNSUPPORTED, trie -> flag(trie.replace(1, BAG[0], 1, 2)));
        dueUnchanged(RefusalTest::lively, UNSUPPORTED, trie -> flag(trie.replace(1, BAG[0], 5, 2)));
    }

    // Promise 6

    @Says(where = "Terms and Promise 6", words = SENTENCE)
    static void snapshotOfNoMap() {
        dueUnchanged(RefusalTest::lively, ARGUMENT, trie -> trie.snapshot(3, false));
        dueUnchanged(RefusalTest::lively, ARGUMENT, trie -> trie.snapshot(6, true));
    }

    @Says(where = "Terms and Promise 6", words = SENTENCE)
    static void snapshotWhenThereAreSixMaps() {
        dueUnchanged(RefusalTest::withSixMaps, STATE, trie -> trie.snapshot(0, false));
        dueUnchanged(RefusalTest::withSixMaps, STATE, trie -> trie.snapshot(5, true));
    }

    // Promise 7

    @Says(where = "Terms and Promise 7", words = SENTENCE)
    static void dropOfNoMap() {
        dueUnchanged(RefusalTest::lively, ARGUMENT, trie -> trie.drop(3));
        dueUnchanged(RefusalTest::lively, ARGUMENT, trie -> trie.drop(-1));
    }

    @Says(where = "Terms and Promise 7", words = SENTENCE)
    static void dropOfMap0() {
        dueUnchanged(RefusalTest::lively, STATE, trie -> trie.drop(0));
        dueUnchanged(SnapshotTrie::new, STATE, trie -> trie.drop(0));
    }

    // Promise 8

    @Says(where = "Terms and Promise 8", words = SENTENCE)
    static void iterateOverNoMap() {
        dueUnchanged(RefusalTest::lively, ARGUMENT, trie -> trie.iterate(3));
        dueUnchanged(RefusalTest::lively, ARGUMENT, trie -> trie.iterate(6));
    }

    @Says(where = "Terms and Promise 8", words = SENTENCE)
    static void iterateWhenThereAreFour() {
        dueUnchanged(RefusalTest::withFourIterators, STATE, trie -> trie.iterate(0));
        dueUnchanged(RefusalTest::withFourIterators, STATE, trie -> trie.iterate(1));
    }

    // Promise 9

    @Says(where = "Terms and Promise 9", words = SENTENCE)
    static void nextOfNoIterator() {
        for (int iterator : new int[] {-1, 2, 3, 4}) {
            dueUnchanged(RefusalTest::lively, ARGUMENT, trie -> trie.next(iterator));
        }
    }

    @Says(where = "Terms and Promise 9", words = "changes nothing (but next, as said): it is free then")
    static void nextAtItsEndFreesItsIteratorAlone() {
        SnapshotTrie asked = atTheEndOfIterator0();
        SnapshotTrie unasked = atTheEndOfIterator0();
        dueThrow("the end", NO_ELEMENT, () -> asked.next(0));
        dueSame(toldOfMaps(unasked), toldOfMaps(asked));
        dueSame(toldOfTheRest(unasked, 1), toldOfTheRest(asked, 1));
        dueThrow("there is none then", ARGUMENT, () -> asked.next(0));
        due("its number is free", 0, asked.iterate(0));
        due("but not before", 1, unasked.iterate(0));
    }

    // Promises 12, 13 and 14

    @Says(where = "Terms and Promise 12", words = SENTENCE)
    static void measureOfNoMapOrWhat() {
        dueUnchanged(RefusalTest::lively, ARGUMENT, trie -> trie.measure(3, 0));
        dueUnchanged(RefusalTest::lively, ARGUMENT, trie -> trie.measure(0, 5));
        dueUnchanged(RefusalTest::lively, ARGUMENT, trie -> trie.measure(0, -1));
    }

    @Says(where = "Terms and Promise 13", words = SENTENCE)
    static void commonOfNoMap() {
        dueUnchanged(RefusalTest::lively, ARGUMENT, trie -> trie.common(3, 0));
        dueUnchanged(RefusalTest::lively, ARGUMENT, trie -> trie.common(0, 3));
    }

    @Says(where = "Terms and Promise 14", words = SENTENCE)
    static void generationOfNoMap() {
        dueUnchanged(RefusalTest::lively, ARGUMENT, trie -> trie.generation(3));
    }

    private static void dueUnchanged(Maker maker, String exception, ToLongFunction<SnapshotTrie> refused) {
        SnapshotTrie asked = maker.make();
        SnapshotTrie unasked = maker.make();
        dueThrow("the call", exception, () -> refused.applyAsLong(asked));
        dueSame(allThatCanBeTold(unasked), allThatCanBeTold(asked));
    }

    /** Writable maps 0 and 2, a read-only map 1, a full bag, iterators 0 and 1 on their way, a value and a copy. */
    private static SnapshotTrie lively() {
        SnapshotTrie trie = trieOf(BAG);
        putAll(trie, 0, key("1000"), key("1200"), key("2000"));
        trie.snapshot(0, true);
        trie.snapshot(0, false);
        trie.iterate(0);
        trie.iterate(1);
        trie.next(0);
        trie.next(1);
        trie.next(1);
        trie.put(0, key("1000"), 9);
        return trie;
    }

    private static SnapshotTrie withSixMaps() {
        SnapshotTrie trie = lively();
        for (int map = 3; map <= 5; map++) {
            trie.snapshot(0, map == 4);
        }
        return trie;
    }

    private static SnapshotTrie withFourIterators() {
        SnapshotTrie trie = lively();
        trie.iterate(2);
        trie.iterate(0);
        return trie;
    }

    private static SnapshotTrie atTheEndOfIterator0() {
        SnapshotTrie trie = lively();
        for (int left = 8; left > 0; left--) {
            trie.next(0);
        }
        return trie;
    }

    /** The nodes are shared, so that a copy made too early shows. */
    private static SnapshotTrie full() {
        SnapshotTrie trie = trieOf(keysOfManyHashes(60));
        trie.snapshot(0, false);
        return trie;
    }

    private static List<String> allThatCanBeTold(SnapshotTrie trie) {
        List<String> told = toldOfMaps(trie);
        for (int iterator = 0; iterator <= 3; iterator++) {
            tellTheRest(trie, iterator, told);
        }
        for (int map = 0; map <= 5; map++) {
            int asked = map;
            tell(told, "iterate(" + map + ")", () -> trie.iterate(asked));
            tellTheRest(trie, 0, told);
            tell(told, "replace in map " + map, () -> flag(trie.replace(asked, BAG[0], 1, 1)));
            tell(told, "copied()", trie::copied);
        }
        tell(told, "snapshot(0)", () -> trie.snapshot(0, false));
        tell(told, "generation(0)", () -> trie.generation(0));
        return told;
    }

    private static List<String> toldOfMaps(SnapshotTrie trie) {
        List<String> told = new ArrayList<>();
        tell(told, "copied()", trie::copied);
        tell(told, "value()", trie::value);
        for (int map = 0; map <= 5; map++) {
            tellOfMap(trie, map, told);
        }
        return told;
    }

    private static void tellOfMap(SnapshotTrie trie, int map, List<String> told) {
        tell(told, "generation(" + map + ")", () -> trie.generation(map));
        for (int what = 0; what <= 4; what++) {
            int asked = what;
            tell(told, "measure(" + map + ", " + what + ")", () -> trie.measure(map, asked));
        }
        for (int other = 0; other < map; other++) {
            int asked = other;
            tell(told, "common(" + map + ", " + other + ")", () -> trie.common(map, asked));
        }
    }

    private static List<String> toldOfTheRest(SnapshotTrie trie, int iterator) {
        List<String> told = new ArrayList<>();
        tellTheRest(trie, iterator, told);
        return told;
    }

    /** What an iterator gives yet, and how it ends. */
    private static void tellTheRest(SnapshotTrie trie, int iterator, List<String> told) {
        boolean goesOn = true;
        for (int count = 0; count <= 60 && goesOn; count++) {
            goesOn = tell(told, "next(" + iterator + ")", () -> trie.next(iterator));
            tell(told, "value()", trie::value);
        }
    }

    /** Whether the call did not throw. */
    private static boolean tell(List<String> told, String name, Call call) {
        String outcome = thrownBy(call);
        told.add(name + ": " + outcome);
        return !outcome.endsWith("Exception");
    }

    /** Complains of the first difference alone, for the others mostly follow from it. */
    private static void dueSame(List<String> want, List<String> got) {
        int at = 0;
        while (at < want.size() && at < got.size() && want.get(at).equals(got.get(at))) {
            at++;
        }
        due("what is asked then", lineAt(want, at), lineAt(got, at));
    }

    private static String lineAt(List<String> told, int at) {
        return at < told.size() ? told.get(at) : "nothing more";
    }
}
