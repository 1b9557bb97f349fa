/** The boundary cases that the promises 1 to 14 name, a test for each sentence. */
public final class PromiseBoundaryTest extends Checks {
    private static final int[] NEVER_A_NUMBER = {-1, 6, Integer.MIN_VALUE, Integer.MAX_VALUE};

    public static void main(String[] args) {
        runTestsOf(PromiseBoundaryTest.class);
    }

    // Promise 1

    @Says(where = "Promise 1", words = "Map 0, empty")
    static void aNewObjectHasMap0Empty() {
        SnapshotTrie trie = new SnapshotTrie();
        dueMeasures(trie, 0, 0, 1, 0, 1, 1);
        dueThrow("get", NO_ELEMENT, () -> trie.get(0, 0));
        dueThrow("remove", NO_ELEMENT, () -> trie.remove(0, 0));
        dueNo("replace", trie.replace(0, 0, 0, 0));
        dueOrder(trie, 0);
    }

    @Says(where = "Promise 1", words = "Map 0, empty")
    static void aNewObjectHasNothingElse() {
        SnapshotTrie trie = new SnapshotTrie();
        for (int map = 1; map <= 5; map++) {
            int missing = map;
            dueThrow("map " + map, ARGUMENT, () -> trie.generation(missing));
        }
        for (int iterator = 0; iterator <= 3; iterator++) {
            int missing = iterator;
            dueThrow("iterator " + iterator, ARGUMENT, () -> trie.next(missing));
        }
        due("copied", 0, trie.copied());
        due("value", 0, trie.value());
    }

    @Says(where = "Promise 1", words = "A new object")
    static void objectsHaveNothingInCommon() {
        SnapshotTrie first = trieOf(1, 2);
        first.snapshot(0, true);
        first.next(first.iterate(0));
        SnapshotTrie second = new SnapshotTrie();
        due("keys", 0, second.measure(0, 0));
        due("generation", 1, second.generation(0));
        due("value", 0, second.value());
        due("the least map", 1, second.snapshot(0, false));
        due("the least iterator", 0, second.iterate(0));
    }

    // Promise 2

    @Says(where = "Promise 2", words = "whether the key is new")
    static void putTellsWhetherTheKeyIsNew() {
        SnapshotTrie trie = new SnapshotTrie();
        dueYes("the first time", trie.put(0, 7, 0));
        dueNo("with another value", trie.put(0, 7, 1));
        dueNo("with the same value", trie.put(0, 7, 1));
        trie.remove(0, 7);
        dueYes("removed before", trie.put(0, 7, 1));
        trie.snapshot(0, false);
        trie.remove(0, 7);
        dueNo("there in the snapshot", trie.put(1, 7, 1));
        dueYes("not there in the map", trie.put(0, 7, 1));
    }

    @Says(where = "Promise 2", words = "IllegalArgumentException, when there is no such map")
    static void putNeedsAMap() {
        SnapshotTrie trie = withADroppedMap();
        for (int map : NEVER_A_NUMBER) {
            dueThrow("map " + map, ARGUMENT, () -> flag(trie.put(map, 1, 1)));
        }
        dueThrow("a dropped map", ARGUMENT, () -> flag(trie.put(1, 1, 1)));
        dueThrow("a map that never was", ARGUMENT, () -> flag(trie.put(5, 1, 1)));
    }

    @Says(where = "Promise 2", words = "UnsupportedOperationException, when it is read-only")
    static void putNeedsAMapThatCanBeWritten() {
        SnapshotTrie trie = withAReadOnlyMap();
        dueThrow("a new key", UNSUPPORTED, () -> flag(trie.put(1, 8, 1)));
        dueThrow("a known key", UNSUPPORTED, () -> flag(trie.put(1, 7, 1)));
    }

    @Says(where = "Promise 2", words = "IllegalStateException, when it has 60 keys and this would be one more")
    static void the60thKeyIsTakenAndThe61stRefused() {
        SnapshotTrie trie = trieOf(keysOfManyHashes(59));
        dueYes("the 60th", trie.put(0, key("3330"), 1));
        dueThrow("the 61st", STATE, () -> flag(trie.put(0, key("3331"), 1)));
        due("keys", 60, trie.measure(0, 0));
    }

    @Says(where = "Promise 2", words = "when it has 60 keys and this would be one more")
    static void aKnownKeyIsTakenByAFullMap() {
        int[] keys = keysOfManyHashes(60);
        SnapshotTrie trie = trieOf(keys);
        for (int key : new int[] {keys[0], keys[30], keys[59]}) {
            dueNo("put", trie.put(0, key, 99));
            due("get", 99, trie.get(0, key));
            dueYes("replace", trie.replace(0, key, 99, 98));
        }
        due("keys", 60, trie.measure(0, 0));
    }

    @Says(where = "Promise 2", words = "when it has 60 keys and this would be one more")
    static void aFullMapHasRoomAfterARemoval() {
        int[] keys = keysOfManyHashes(61);
        SnapshotTrie trie = trieOf(keysOfManyHashes(60));
        trie.remove(0, keys[20]);
        dueYes("in its stead", trie.put(0, keys[60], 1));
        dueThrow("one more", STATE, () -> flag(trie.put(0, keys[20], 1)));
    }

    @Says(where = "Promise 2", words = "when it has 60 keys")
    static void eachMapHasItsOwn60Keys() {
        SnapshotTrie trie = trieOf(keysOfManyHashes(59));
        trie.snapshot(0, false);
        dueYes("the map's 60th", trie.put(0, key("3330"), 1));
        dueYes("the snapshot's 60th", trie.put(1, key("3331"), 1));
        dueThrow("the map's 61st", STATE, () -> flag(trie.put(0, key("3331"), 1)));
        dueThrow("the snapshot's 61st", STATE, () -> flag(trie.put(1, key("3330"), 1)));
        trie.remove(1, key("3331"));
        dueThrow("the map is full yet", STATE, () -> flag(trie.put(0, key("3331"), 1)));
    }

    @Says(where = "Promise 2", words = "when it has 60 keys and this would be one more")
    static void aFullMapTakesNoKeyIntoABagWithRoom() {
        SnapshotTrie trie = trieOf(keysOfManyHashes(58));
        putAll(trie, 0, keysOfOneHash("3333", 2));
        dueThrow("the bag's third", STATE, () -> flag(trie.put(0, key("3333", 2), 1)));
    }

    @Says(where = "Promise 2", words = "or a bag would have a seventh entry")
    static void aBagsSixthIsTakenAndItsSeventhRefused() {
        for (String digits : new String[] {"0000", "1231", "3333"}) {
            SnapshotTrie trie = trieOf(keysOfOneHash(digits, 5));
            dueYes("the sixth", trie.put(0, key(digits, 5), 1));
            dueThrow("the seventh", STATE, () -> flag(trie.put(0, key(digits, 6), 1)));
            dueMeasures(trie, 0, 6, 5, 1, 5, 5);
        }
    }

    @Says(where = "Promise 2", words = "or a bag would have a seventh entry")
    static void aKnownKeyIsTakenByAFullBag() {
        SnapshotTrie trie = trieOf(keysOfOneHash("2222", 6));
        for (int n : new int[] {0, 3, 5}) {
            dueNo("put", trie.put(0, key("2222", n), 50));
            due("get", 50, trie.get(0, key("2222", n)));
        }
    }

    @Says(where = "Promise 2", words = "or a bag would have a seventh entry")
    static void aFullBagHasRoomAfterARemoval() {
        for (int n = 0; n < 6; n++) {
            SnapshotTrie trie = trieOf(keysOfOneHash("2222", 6));
            trie.remove(0, key("2222", n));
            dueYes("in its stead", trie.put(0, key("2222", 6), 1));
            dueThrow("one more", STATE, () -> flag(trie.put(0, key("2222", 7), 1)));
        }
    }

    @Says(where = "Promise 2", words = "or a bag would have a seventh entry")
    static void aFullBagIsNoBarForTheBagBesideIt() {
        SnapshotTrie trie = trieOf(keysOfOneHash("2222", 6));
        for (int n = 0; n < 6; n++) {
            dueYes("put", trie.put(0, key("2223", n), n));
        }
        dueMeasures(trie, 0, 12, 6, 2, 5, 6);
        dueThrow("its seventh", STATE, () -> flag(trie.put(0, key("2223", 6), 1)));
    }

    @Says(where = "Promise 2", words = "or a bag would have a seventh entry")
    static void eachMapHasItsOwnBags() {
        SnapshotTrie trie = trieOf(keysOfOneHash("2222", 6));
        trie.snapshot(0, false);
        trie.remove(1, key("2222", 0));
        dueThrow("the map's bag is full yet", STATE, () -> flag(trie.put(0, key("2222", 6), 1)));
        dueYes("the snapshot's is not", trie.put(1, key("2222", 6), 1));
    }

    // Promise 3

    @Says(where = "Promise 3", words = "IllegalArgumentException, when there is no such map")
    static void getNeedsAMap() {
        SnapshotTrie trie = withADroppedMap();
        for (int map : NEVER_A_NUMBER) {
            dueThrow("map " + map, ARGUMENT, () -> trie.get(map, 7));
        }
        dueThrow("a dropped map", ARGUMENT, () -> trie.get(1, 7));
        dueThrow("a map that never was", ARGUMENT, () -> trie.get(5, 7));
    }

    @Says(where = "Promise 3", words = "NoSuchElementException, when the key is not there")
    static void getNeedsTheKey() {
        SnapshotTrie trie = trieOf(key("1000", 0), key("2000", 0), key("2000", 1));
        dueThrow("an empty place", NO_ELEMENT, () -> trie.get(0, key("0000")));
        dueThrow("another key's place", NO_ELEMENT, () -> trie.get(0, key("1000", 1)));
        dueThrow("an empty place below", NO_ELEMENT, () -> trie.get(0, key("2001")));
        dueThrow("a bag without it", NO_ELEMENT, () -> trie.get(0, key("2000", 2)));
        trie.snapshot(0, true);
        trie.remove(0, key("1000", 0));
        dueThrow("removed", NO_ELEMENT, () -> trie.get(0, key("1000", 0)));
        due("there in the snapshot", 1, trie.get(1, key("1000", 0)));
    }

    @Says(where = "Promise 3", words = "NoSuchElementException, when the key is not there")
    static void aValueOf0OrNoneIsAValue() {
        SnapshotTrie trie = new SnapshotTrie();
        trie.put(0, 0, 0);
        due("0", 0, trie.get(0, 0));
        trie.put(0, 0, SnapshotTrie.NONE);
        due("NONE", -1, trie.get(0, 0));
        due("removed", -1, trie.remove(0, 0));
    }

    // Promise 4

    @Says(where = "Promise 4", words = "Removes a key: its value")
    static void removeAnswersTheLatestValueOnce() {
        SnapshotTrie trie = trieOf(7);
        trie.put(0, 7, 70);
        trie.put(0, 8, 80);
        due("remove", 70, trie.remove(0, 7));
        dueThrow("once more", NO_ELEMENT, () -> trie.remove(0, 7));
        due("the last key", 80, trie.remove(0, 8));
        due("keys", 0, trie.measure(0, 0));
    }

    @Says(where = "Promise 4", words = "IllegalArgumentException")
    static void removeNeedsAMap() {
        SnapshotTrie trie = withADroppedMap();
        for (int map : NEVER_A_NUMBER) {
            dueThrow("map " + map, ARGUMENT, () -> trie.remove(map, 7));
        }
        dueThrow("a dropped map", ARGUMENT, () -> trie.remove(1, 7));
        dueThrow("a map that never was", ARGUMENT, () -> trie.remove(5, 7));
    }

    @Says(where = "Promise 4", words = "UnsupportedOperationException, when it is read-only")
    static void removeNeedsAMapThatCanBeWritten() {
        SnapshotTrie trie = withAReadOnlyMap();
        dueThrow("a key", UNSUPPORTED, () -> trie.remove(1, 7));
        dueThrow("a missing key", UNSUPPORTED, () -> trie.remove(1, 8));
        due("the key stays", 1, trie.get(1, 7));
    }

    @Says(where = "Promise 4", words = "NoSuchElementException, when the key is not there")
    static void removeNeedsTheKey() {
        SnapshotTrie trie = trieOf(key("1000", 0), key("2000", 0), key("2000", 1));
        dueThrow("an empty place", NO_ELEMENT, () -> trie.remove(0, key("0000")));
        dueThrow("another key's place", NO_ELEMENT, () -> trie.remove(0, key("1000", 1)));
        dueThrow("an empty place below", NO_ELEMENT, () -> trie.remove(0, key("2001")));
        dueThrow("a bag without it", NO_ELEMENT, () -> trie.remove(0, key("2000", 2)));
        dueMeasures(trie, 0, 3, 5, 1, 5, 5);
    }

    // Promise 5

    @Says(where = "Promise 5", words = "Puts value, if the key is there with the value old: whether it was")
    static void replaceNeedsTheKeyAndTheOldValue() {
        SnapshotTrie trie = trieOf(key("1000", 0), key("2000", 0), key("2000", 1));
        dueNo("an empty place", trie.replace(0, key("0000"), 0, 5));
        dueNo("another key's place", trie.replace(0, key("1000", 1), 1, 5));
        dueNo("a bag without it", trie.replace(0, key("2000", 2), 2, 5));
        dueNo("the value of the entry behind it, one too large", trie.replace(0, key("2000", 0), 3, 5));
        dueNo("the value of another place, one too small", trie.replace(0, key("2000", 0), 1, 5));
        dueYes("its value", trie.replace(0, key("2000", 0), 2, 5));
        dueNo("which it has no more", trie.replace(0, key("2000", 0), 2, 6));
        due("the value", 5, trie.get(0, key("2000", 0)));
        due("keys", 3, trie.measure(0, 0));
    }

    @Says(where = "Promise 5", words = "IllegalArgumentException")
    static void replaceNeedsAMap() {
        SnapshotTrie trie = withADroppedMap();
        for (int map : NEVER_A_NUMBER) {
            dueThrow("map " + map, ARGUMENT, () -> flag(trie.replace(map, 7, 1, 2)));
        }
        dueThrow("a dropped map", ARGUMENT, () -> flag(trie.replace(1, 7, 1, 2)));
        dueThrow("a map that never was", ARGUMENT, () -> flag(trie.replace(5, 7, 1, 2)));
    }

    @Says(where = "Promise 5", words = "UnsupportedOperationException, when it is read-only")
    static void replaceNeedsAMapThatCanBeWritten() {
        SnapshotTrie trie = withAReadOnlyMap();
        dueThrow("its value", UNSUPPORTED, () -> flag(trie.replace(1, 7, 1, 2)));
        dueThrow("another value", UNSUPPORTED, () -> flag(trie.replace(1, 7, 5, 2)));
        dueThrow("a missing key", UNSUPPORTED, () -> flag(trie.replace(1, 8, 1, 2)));
        due("the value stays", 1, trie.get(1, 7));
    }

    // Promise 6

    @Says(where = "Promise 6", words = "the number of the new map")
    static void theNewMapIsTheOneOfTheNumber() {
        SnapshotTrie trie = trieOf(7);
        for (int map = 1; map <= 5; map++) {
            due("snapshot", map, trie.snapshot(0, false));
            due("its key", map, trie.get(map, 7));
            trie.put(0, 7, map + 1);
        }
        for (int map = 1; map <= 5; map++) {
            due("its key yet", map, trie.get(map, 7));
        }
    }

    @Says(where = "Promise 6", words = "IllegalArgumentException")
    static void snapshotNeedsAMap() {
        SnapshotTrie trie = withADroppedMap();
        for (int map : NEVER_A_NUMBER) {
            dueThrow("map " + map, ARGUMENT, () -> trie.snapshot(map, false));
        }
        dueThrow("a dropped map, whose number would be next", ARGUMENT, () -> trie.snapshot(1, false));
        dueThrow("a map that never was", ARGUMENT, () -> trie.snapshot(5, true));
    }

    @Says(where = "Promise 6", words = "IllegalStateException, when there are six maps")
    static void theSixthMapIsMadeAndTheSeventhRefused() {
        SnapshotTrie trie = new SnapshotTrie();
        for (int map = 1; map <= 5; map++) {
            due("snapshot", map, trie.snapshot(0, true));
        }
        dueThrow("of map 0", STATE, () -> trie.snapshot(0, false));
        dueThrow("of map 5", STATE, () -> trie.snapshot(5, true));
        trie.drop(3);
        due("in its stead", 3, trie.snapshot(5, false));
        dueThrow("again", STATE, () -> trie.snapshot(3, false));
    }

    // Promise 7

    @Says(where = "Promise 7", words = "how many keys it had")
    static void dropTellsHowManyKeysThereWere() {
        SnapshotTrie trie = new SnapshotTrie();
        trie.snapshot(0, false);
        due("an empty map", 0, trie.drop(1));
        putAll(trie, 0, keysOfManyHashes(60));
        trie.snapshot(0, true);
        trie.remove(0, key("0000"));
        due("a full one", 60, trie.drop(1));
        due("the map that stays", 59, trie.measure(0, 0));
    }

    @Says(where = "Promise 7", words = "A map is no more")
    static void aDroppedMapIsNoMore() {
        SnapshotTrie trie = withADroppedMap();
        dueThrow("put", ARGUMENT, () -> flag(trie.put(1, 7, 1)));
        dueThrow("get", ARGUMENT, () -> trie.get(1, 7));
        dueThrow("remove", ARGUMENT, () -> trie.remove(1, 7));
        dueThrow("replace", ARGUMENT, () -> flag(trie.replace(1, 7, 1, 1)));
        dueThrow("snapshot", ARGUMENT, () -> trie.snapshot(1, false));
        dueThrow("iterate", ARGUMENT, () -> trie.iterate(1));
        dueThrow("measure", ARGUMENT, () -> trie.measure(1, 0));
        dueThrow("common", ARGUMENT, () -> trie.common(0, 1));
        dueThrow("generation", ARGUMENT, () -> trie.generation(1));
    }

    @Says(where = "Promise 7", words = "A map is no more")
    static void aMapGoesOnWithoutTheOneItWasMadeFrom() {
        SnapshotTrie trie = trieOf(7);
        trie.snapshot(0, false);
        trie.snapshot(1, false);
        due("drop", 1, trie.drop(1));
        due("get", 1, trie.get(2, 7));
        dueNo("put", trie.put(2, 7, 2));
        due("the first map", 1, trie.get(0, 7));
    }

    @Says(where = "Promise 7", words = "IllegalArgumentException, when there is none")
    static void dropNeedsAMap() {
        SnapshotTrie trie = withADroppedMap();
        for (int map : NEVER_A_NUMBER) {
            dueThrow("map " + map, ARGUMENT, () -> trie.drop(map));
        }
        dueThrow("a dropped map", ARGUMENT, () -> trie.drop(1));
        dueThrow("a map that never was", ARGUMENT, () -> trie.drop(5));
    }

    @Says(where = "Promise 7", words = "IllegalStateException, for map 0")
    static void map0IsNeverDropped() {
        SnapshotTrie trie = new SnapshotTrie();
        dueThrow("when it is empty", STATE, () -> trie.drop(0));
        trie.put(0, 7, 1);
        trie.snapshot(0, false);
        dueThrow("when there is another one", STATE, () -> trie.drop(0));
        due("it is there yet", 1, trie.get(0, 7));
        due("the greatest that can be dropped", 1, dropTheFifth(trie));
    }

    private static int dropTheFifth(SnapshotTrie trie) {
        for (int map = 2; map <= 5; map++) {
            trie.snapshot(0, false);
        }
        return trie.drop(5);
    }

    // Promise 8

    @Says(where = "Promise 8", words = "An iterator over a map, of the least number that is free")
    static void anIteratorHasTheLeastNumberThatIsFree() {
        SnapshotTrie trie = trieOf(7);
        for (int iterator = 0; iterator <= 3; iterator++) {
            due("a new number", iterator, trie.iterate(0));
        }
        dueRest(trie, 3, 7);
        dueRest(trie, 0, 7);
        dueRest(trie, 2, 7);
        due("the first gap", 0, trie.iterate(0));
        due("the second gap", 2, trie.iterate(0));
        due("the last number", 3, trie.iterate(0));
    }

    @Says(where = "Promise 8", words = "IllegalArgumentException")
    static void iterateNeedsAMap() {
        SnapshotTrie trie = withADroppedMap();
        for (int map : NEVER_A_NUMBER) {
            dueThrow("map " + map, ARGUMENT, () -> trie.iterate(map));
        }
        dueThrow("a dropped map", ARGUMENT, () -> trie.iterate(1));
        dueThrow("a map that never was", ARGUMENT, () -> trie.iterate(5));
    }

    @Says(where = "Promise 8", words = "IllegalStateException, when there are four")
    static void theFourthIteratorIsMadeAndTheFifthRefused() {
        SnapshotTrie trie = trieOf(7);
        trie.snapshot(0, true);
        for (int iterator = 0; iterator <= 3; iterator++) {
            due("iterate", iterator, trie.iterate(iterator % 2));
        }
        dueThrow("over one map", STATE, () -> trie.iterate(0));
        dueThrow("over the other", STATE, () -> trie.iterate(1));
        due("its last key alone frees none", 7, trie.next(1));
        dueThrow("again", STATE, () -> trie.iterate(0));
        dueThrow("its end", NO_ELEMENT, () -> trie.next(1));
        due("in its stead", 1, trie.iterate(0));
        dueThrow("again", STATE, () -> trie.iterate(0));
    }

    // Promise 9

    @Says(where = "Promise 9", words = "The next key of an iterator")
    static void nextGivesEachOf60KeysOnce() {
        int[] keys = keysOfManyHashes(54);
        int[] bag = keysOfOneHash("3333", 6);
        SnapshotTrie trie = trieOf(keys);
        putAll(trie, 0, bag);
        due("iterate", 0, trie.iterate(0));
        for (int key : keys) {
            due("next", key, trie.next(0));
        }
        dueRest(trie, 0, bag);
    }

    @Says(where = "Promise 9", words = "The next key of an iterator")
    static void iteratorsGoEachItsOwnWay() {
        SnapshotTrie trie = trieOf(key("0000"), key("1000"));
        trie.iterate(0);
        trie.iterate(0);
        due("the first's", key("0000"), trie.next(0));
        due("the first's", key("1000"), trie.next(0));
        due("the second's", key("0000"), trie.next(1));
        dueThrow("the first's end", NO_ELEMENT, () -> trie.next(0));
        dueRest(trie, 1, key("1000"));
    }

    @Says(where = "Promise 9", words = "IllegalArgumentException, when there is none")
    static void nextNeedsAnIterator() {
        SnapshotTrie trie = trieOf(7);
        trie.iterate(0);
        for (int iterator : new int[] {-1, 1, 3, 4, Integer.MIN_VALUE, Integer.MAX_VALUE}) {
            dueThrow("iterator " + iterator, ARGUMENT, () -> trie.next(iterator));
        }
        dueRest(trie, 0, 7);
    }

    @Says(where = "Promise 9", words = "NoSuchElementException, when it has no further one (it is free then)")
    static void anIteratorIsFreeAtItsEnd() {
        SnapshotTrie trie = trieOf(7);
        trie.iterate(0);
        trie.next(0);
        due("not before the end", 1, trie.iterate(0));
        dueThrow("the end", NO_ELEMENT, () -> trie.next(0));
        dueThrow("there is none then", ARGUMENT, () -> trie.next(0));
        due("its number is free", 0, trie.iterate(0));
        dueRest(trie, 0, 7);
    }

    @Says(where = "Promise 9", words = "NoSuchElementException, when it has no further one")
    static void anIteratorOverAnEmptyMapHasNone() {
        SnapshotTrie trie = new SnapshotTrie();
        trie.iterate(0);
        trie.put(0, 7, 1);
        dueThrow("empty when it began", NO_ELEMENT, () -> trie.next(0));
        dueThrow("there is none then", ARGUMENT, () -> trie.next(0));
        trie.remove(0, 7);
        trie.iterate(0);
        dueThrow("empty again", NO_ELEMENT, () -> trie.next(0));
    }

    // Promise 10

    @Says(where = "Promise 10", words = "0 when none did")
    static void valueIs0BeforeTheFirstNext() {
        SnapshotTrie trie = trieOf(7);
        due("nothing called", 0, trie.value());
        trie.get(0, 7);
        trie.iterate(0);
        due("an iterator made", 0, trie.value());
        dueThrow("no iterator", ARGUMENT, () -> trie.next(1));
        due("a next that threw", 0, trie.value());
        SnapshotTrie empty = new SnapshotTrie();
        empty.iterate(0);
        dueThrow("the end", NO_ELEMENT, () -> empty.next(0));
        due("a next that had none", 0, empty.value());
    }

    @Says(where = "Promise 10", words = "The value of the key that came last from next")
    static void valueIsThatOfTheKeyThatCameLast() {
        SnapshotTrie trie = trieOf(key("0000"), key("1000"));
        trie.iterate(0);
        trie.put(0, key("0000"), 50);
        trie.iterate(0);
        trie.next(0);
        due("what there was", 1, trie.value());
        trie.next(1);
        due("the other iterator's", 50, trie.value());
        trie.next(0);
        due("the next one's", 2, trie.value());
        dueThrow("the end", NO_ELEMENT, () -> trie.next(0));
        dueThrow("no iterator", ARGUMENT, () -> trie.next(0));
        due("stays at the end", 2, trie.value());
        trie.put(0, key("1000"), 60);
        trie.remove(0, key("1000"));
        due("stays after writes", 2, trie.value());
    }

    // Promise 11

    @Says(where = "Promise 11", words = "How many nodes the latest put, remove or replace that did not throw copied")
    static void copiedIs0UntilThereIsSomethingToCopy() {
        SnapshotTrie trie = new SnapshotTrie();
        due("nothing called", 0, trie.copied());
        putAll(trie, 0, keysOfOneHash("0000", 6));
        due("new nodes", 0, trie.copied());
        trie.remove(0, key("0000", 0));
        due("remove", 0, trie.copied());
        trie.replace(0, key("0000", 1), 2, 3);
        due("replace", 0, trie.copied());
    }

    @Says(where = "Promise 11", words = "How many nodes the latest put, remove or replace that did not throw copied")
    static void copiedIsAtMost5() {
        int[] keys = keysOfOneHash("0000", 3);
        SnapshotTrie trie = trieOf(keys);
        trie.snapshot(0, false);
        trie.put(0, keys[0], 5);
        due("put", 5, trie.copied());
        trie.snapshot(0, false);
        trie.remove(0, keys[0]);
        due("remove", 5, trie.copied());
        trie.snapshot(0, false);
        trie.replace(0, keys[1], 2, 5);
        due("replace", 5, trie.copied());
    }

    @Says(where = "Promise 11", words = "the latest put, remove or replace")
    static void otherCallsLeaveCopied() {
        SnapshotTrie trie = trieOf(7);
        trie.snapshot(0, false);
        trie.put(0, 7, 2);
        trie.get(0, 7);
        trie.drop(trie.snapshot(0, true));
        trie.next(trie.iterate(0));
        trie.value();
        trie.measure(0, 1);
        trie.common(0, 1);
        trie.generation(0);
        due("copied", 1, trie.copied());
    }

    @Says(where = "Promise 11", words = "the latest put, remove or replace")
    static void aReplaceThatDoesNothingCopies0() {
        SnapshotTrie trie = trieOf(7);
        trie.snapshot(0, false);
        trie.put(0, 7, 2);
        due("before", 1, trie.copied());
        dueNo("another value", trie.replace(0, 7, 1, 3));
        due("copied", 0, trie.copied());
        trie.put(1, 7, 2);
        due("before", 1, trie.copied());
        dueNo("a missing key", trie.replace(1, 8, 1, 3));
        due("copied", 0, trie.copied());
    }

    @Says(where = "Promise 11", words = "that did not throw")
    static void callsThatThrowLeaveCopied() {
        SnapshotTrie trie = trieOf(keysOfOneHash("0000", 6));
        trie.snapshot(0, true);
        trie.put(0, key("0000"), 9);
        dueThrow("put", ARGUMENT, () -> flag(trie.put(2, 1, 1)));
        dueThrow("put", UNSUPPORTED, () -> flag(trie.put(1, 1, 1)));
        dueThrow("put", STATE, () -> flag(trie.put(0, key("0000", 6), 1)));
        dueThrow("remove", ARGUMENT, () -> trie.remove(2, 1));
        dueThrow("remove", UNSUPPORTED, () -> trie.remove(1, 1));
        dueThrow("remove", NO_ELEMENT, () -> trie.remove(0, 1));
        dueThrow("replace", ARGUMENT, () -> flag(trie.replace(2, 1, 1, 1)));
        dueThrow("replace", UNSUPPORTED, () -> flag(trie.replace(1, 1, 1, 1)));
        due("copied", 5, trie.copied());
    }

    // Promise 12

    @Says(where = "Promise 12", words = "how many keys (0)")
    static void measure0CountsFrom0To60() {
        int[] keys = keysOfManyHashes(60);
        SnapshotTrie trie = new SnapshotTrie();
        for (int count = 0; count < 60; count++) {
            due("keys", count, trie.measure(0, 0));
            trie.put(0, keys[count], 1);
            trie.put(0, keys[count], 2);
        }
        due("keys", 60, trie.measure(0, 0));
    }

    @Says(where = "Promise 12", words = "nodes with bags (1), bags (2)")
    static void measure1CountsBagsToo() {
        SnapshotTrie trie = new SnapshotTrie();
        dueMeasures(trie, 0, 0, 1, 0);
        putAll(trie, 0, key("0000", 0), key("0000", 1));
        dueMeasures(trie, 0, 2, 5, 1);
        putAll(trie, 0, key("0001", 0), key("0001", 1));
        dueMeasures(trie, 0, 4, 6, 2);
        putAll(trie, 0, key("3000", 0), key("3001", 0));
        dueMeasures(trie, 0, 6, 9, 2);
    }

    @Says(where = "Promise 12", words = "levels (3; 1 for a root alone)")
    static void measure3CountsFrom1To5() {
        SnapshotTrie trie = new SnapshotTrie();
        due("an empty root", 1, trie.measure(0, 3));
        trie.put(0, key("0000", 0), 1);
        due("an entry", 1, trie.measure(0, 3));
        String[] deeper = {"0100", "0010", "0001", "0000"};
        for (int at = 0; at < deeper.length; at++) {
            trie.put(0, key(deeper[at], 1), 1);
            due("levels", at + 2, trie.measure(0, 3));
        }
        putAll(trie, 0, key("3000"), key("3100"));
        due("the deepest counts", 5, trie.measure(0, 3));
        trie.remove(0, key("0000", 0));
        due("the bag left", 4, trie.measure(0, 3));
    }

    @Says(where = "Promise 12", words = "how many of its nodes belong to its generation (4)")
    static void measure4CountsFromNoneToAll() {
        SnapshotTrie trie = trieOf(key("0000", 0), key("0000", 1), key("1000", 0), key("1100", 0));
        due("all", 6, trie.measure(0, 4));
        trie.snapshot(0, true);
        due("none", 0, trie.measure(0, 4));
        trie.put(0, key("1200"), 1);
        due("the way", 2, trie.measure(0, 4));
        due("none in a read-only map", 0, trie.measure(1, 4));
        trie.put(0, key("0000", 0), 1);
        due("all again", 6, trie.measure(0, 4));
        trie.iterate(0);
        due("none again", 0, trie.measure(0, 4));
    }

    @Says(where = "Promise 12", words = "IllegalArgumentException, when there is no such map or what")
    static void measureNeedsAMap() {
        SnapshotTrie trie = withADroppedMap();
        for (int what = 0; what <= 4; what++) {
            int asked = what;
            for (int map : NEVER_A_NUMBER) {
                dueThrow("map " + map, ARGUMENT, () -> trie.measure(map, asked));
            }
            dueThrow("a dropped map", ARGUMENT, () -> trie.measure(1, asked));
            dueThrow("a map that never was", ARGUMENT, () -> trie.measure(5, asked));
        }
    }

    @Says(where = "Promise 12", words = "IllegalArgumentException, when there is no such map or what")
    static void measureNeedsAWhat() {
        SnapshotTrie trie = trieOf(7);
        for (int what : new int[] {-1, 5, 6, Integer.MIN_VALUE, Integer.MAX_VALUE}) {
            dueThrow("what " + what, ARGUMENT, () -> trie.measure(0, what));
        }
    }

    // Promise 13

    @Says(where = "Promise 13", words = "How many nodes two maps have in common")
    static void commonGoesFromAllToNone() {
        int[] keys = {key("0000", 0), key("0000", 1), key("1000"), key("1100")};
        SnapshotTrie trie = trieOf(keys);
        trie.snapshot(0, false);
        due("all", 6, trie.common(0, 1));
        trie.put(0, keys[2], 9);
        due("all but the way", 4, trie.common(0, 1));
        due("from the other side", 4, trie.common(1, 0));
        trie.put(0, keys[0], 9);
        due("none", 0, trie.common(0, 1));
        trie.put(0, keys[0], 1);
        trie.put(0, keys[2], 3);
        due("none, though all is alike", 0, trie.common(0, 1));
    }

    @Says(where = "Promise 13", words = "How many nodes two maps have in common")
    static void aMapHasAllNodesInCommonWithItself() {
        SnapshotTrie trie = new SnapshotTrie();
        due("an empty map", 1, trie.common(0, 0));
        putAll(trie, 0, keysOfOneHash("0000", 6));
        due("a bag and its way", 5, trie.common(0, 0));
        trie.snapshot(0, true);
        due("a read-only map", 5, trie.common(1, 1));
    }

    @Says(where = "Promise 13", words = "How many nodes two maps have in common")
    static void snapshotsOfOneMapHaveNodesInCommon() {
        SnapshotTrie trie = trieOf(key("0000"), key("0100"), key("1000"), key("1100"));
        trie.snapshot(0, false);
        trie.snapshot(0, false);
        trie.put(1, key("0000"), 9);
        trie.put(2, key("1000"), 9);
        due("none, for each copied the root and one", 0, trie.common(1, 2));
        due("one that the first did not copy", 1, trie.common(0, 1));
        due("one that the second did not copy", 1, trie.common(0, 2));
    }

    @Says(where = "Promise 13", words = "IllegalArgumentException, when there is none of these")
    static void commonNeedsBothMaps() {
        SnapshotTrie trie = withADroppedMap();
        for (int map : new int[] {-1, 1, 5, 6, Integer.MIN_VALUE, Integer.MAX_VALUE}) {
            dueThrow("a is " + map, ARGUMENT, () -> trie.common(map, 0));
            dueThrow("b is " + map, ARGUMENT, () -> trie.common(0, map));
            dueThrow("both are " + map, ARGUMENT, () -> trie.common(map, map));
        }
    }

    // Promise 14

    @Says(where = "Promise 14", words = "A map's generation")
    static void onlySnapshotsAndIteratorsGiveGenerations() {
        SnapshotTrie trie = trieOf(7);
        due("after a put", 1, trie.generation(0));
        trie.replace(0, 7, 1, 2);
        trie.remove(0, 7);
        due("after other writes", 1, trie.generation(0));
        trie.iterate(0);
        dueThrow("the end", NO_ELEMENT, () -> trie.next(0));
        due("after an iterator", 2, trie.generation(0));
        trie.drop(trie.snapshot(0, false));
        due("after a snapshot", 3, trie.generation(0));
        trie.snapshot(0, true);
        due("the dropped map's is not used again", 5, trie.generation(0));
        due("nor for the new one", 6, trie.generation(1));
    }

    @Says(where = "Promise 14", words = "IllegalArgumentException, when there is none")
    static void generationNeedsAMap() {
        SnapshotTrie trie = withADroppedMap();
        for (int map : NEVER_A_NUMBER) {
            dueThrow("map " + map, ARGUMENT, () -> trie.generation(map));
        }
        dueThrow("a dropped map", ARGUMENT, () -> trie.generation(1));
        dueThrow("a map that never was", ARGUMENT, () -> trie.generation(5));
    }

    // The constants

    @Says(where = "Terms, The constants", words = "NONE = -1")
    static void noneIsMinus1() {
        due("NONE", -1, SnapshotTrie.NONE);
    }

    /** Map 0 has the key 7, and map 1 had it. */
    private static SnapshotTrie withADroppedMap() {
        SnapshotTrie trie = trieOf(7);
        trie.snapshot(0, false);
        trie.drop(1);
        return trie;
    }

    /** Map 0 and the read-only map 1 have the key 7. */
    private static SnapshotTrie withAReadOnlyMap() {
        SnapshotTrie trie = trieOf(7);
        trie.snapshot(0, true);
        return trie;
    }
}
