import java.util.HashSet;
import java.util.Set;

/** The boundary cases that "What it is" and "Terms" name, a test for each sentence; RefusalTest has the last one. */
public final class TermBoundaryTest extends Checks {
    private static final String NOTHING_TO_BE_DONE = "A call that finds that nothing is to be done"
        + " (a key that is not there, a value that is not replaced) writes nothing";

    public static void main(String[] args) {
        runTestsOf(TermBoundaryTest.class);
    }

    // What it is

    @Says(where = "What it is", words = "An object is used for at most 512 calls after it has been made")
    static void the512thCallAnswersAsTheFirst() {
        SnapshotTrie trie = new SnapshotTrie();
        for (int round = 0; round < 128; round++) {
            due("snapshot", 1, trie.snapshot(0, false));
            due("put", flag(round < 60), flag(trie.put(0, round % 60, round)));
            due("drop", Math.min(round, 60), trie.drop(1));
            due("generation", 2 * (round + 1), trie.generation(0));
        }
    }

    @Says(where = "What it is", words = "a snapshot of a whole map costs nothing but two new generations")
    static void aSnapshotOfAFullMapMakesNoNode() {
        SnapshotTrie trie = trieOf(keysOfManyHashes(60));
        int nodes = trie.measure(0, 1);
        trie.snapshot(0, false);
        due("common", nodes, trie.common(0, 1));
        due("own nodes of the map", 0, trie.measure(0, 4));
        due("own nodes of the snapshot", 0, trie.measure(1, 4));
        due("the map's generation", 2, trie.generation(0));
        due("the snapshot's generation", 3, trie.generation(1));
    }

    @Says(where = "What it is", words = "a later write copies the nodes on its way alone")
    static void aWriteIntoAFullMapCopiesItsWayAlone() {
        int[] keys = keysOfManyHashes(60);
        SnapshotTrie trie = trieOf(keys);
        int nodes = trie.measure(0, 1);
        trie.snapshot(0, false);
        trie.put(0, keys[0], 5);
        due("copied", 4, trie.copied());
        due("common", nodes - 4, trie.common(0, 1));
    }

    @Says(where = "What it is", words = "iterators go over what there was when they began, and never see later writes")
    static void iteratorsOfSharedNodesSeeNoWrites() {
        int[] bag = keysOfOneHash("0000", 2);
        SnapshotTrie trie = trieOf(bag[0], bag[1], key("0100"));
        trie.iterate(0);
        trie.snapshot(0, false);
        trie.iterate(1);
        for (int map = 0; map < 2; map++) {
            trie.put(map, key("0000", 2), 9);
            trie.remove(map, bag[0]);
            trie.remove(map, key("0100"));
        }
        trie.iterate(1);
        dueRest(trie, 0, bag[0], bag[1], key("0100"));
        dueRest(trie, 1, bag[0], bag[1], key("0100"));
        dueRest(trie, 2, bag[1], key("0000", 2));
    }

    // KEYS, VALUES

    @Says(where = "Terms, KEYS", words = "KEYS are ints")
    static void anyIntIsAKey() {
        int[] keys = {Integer.MIN_VALUE, Integer.MIN_VALUE + 1, -1, 0, 1, Integer.MAX_VALUE - 1, Integer.MAX_VALUE};
        SnapshotTrie trie = new SnapshotTrie();
        for (int key : keys) {
            dueThrow("get(" + key + ")", NO_ELEMENT, () -> trie.get(0, key));
            dueYes("put(" + key + ")", trie.put(0, key, key));
        }
        for (int key : keys) {
            due("get(" + key + ")", key, trie.get(0, key));
            dueYes("replace(" + key + ")", trie.replace(0, key, key, 5));
            due("remove(" + key + ")", 5, trie.remove(0, key));
        }
        dueMeasures(trie, 0, 0, 1, 0, 1, 1);
    }

    @Says(where = "Terms, VALUES", words = "VALUES longs")
    static void anyLongIsAValue() {
        for (long value : new long[] {Long.MIN_VALUE, Long.MAX_VALUE, -1, 0, 1L << 32, -(1L << 32), -1L >>> 32}) {
            SnapshotTrie trie = new SnapshotTrie();
            trie.put(0, 1, value);
            due("get", value, trie.get(0, 1));
            trie.next(trie.iterate(0));
            due("value", value, trie.value());
            dueNo("replace of another in the high bits", trie.replace(0, 1, value ^ (1L << 63), 0));
            dueNo("replace of another in the low bits", trie.replace(0, 1, value ^ 1, 0));
            dueYes("replace", trie.replace(0, 1, value, ~value));
            due("remove", ~value, trie.remove(0, 1));
        }
    }

    // HASH, DIGITS

    /** By hand: the products' first digits are 00.., 3C.., 61.., 80.., 9E.., E1.. in hexadecimal. */
    @Says(where = "Terms, HASH", words = "the highest eight bits of key * -1640531535 (it wraps)")
    static void theHashWraps() {
        SnapshotTrie trie = trieOf(1, Integer.MAX_VALUE, Integer.MIN_VALUE, -1, 2, 0);
        dueMeasures(trie, 0, 6, 3, 0, 2, 3);
        dueOrder(trie, 0, 0, 2, -1, Integer.MIN_VALUE, 1, Integer.MAX_VALUE);
    }

    /** The factor is 9E3779B1 in hexadecimal: of these keys each has another two of its digits as its hash. */
    @Says(where = "Terms, HASH", words = "key * -1640531535")
    static void eachBitOfTheFactorCounts() {
        String[] hashes = {"2132", "0313", "1321", "2301"};
        for (int at = 0; at < hashes.length; at++) {
            int key = 1 << (8 * at);
            SnapshotTrie trie = trieOf(key, key(hashes[at], 1));
            dueMeasures(trie, 0, 2, 5, 1, 5, 5);
        }
    }

    @Says(where = "Terms, HASH", words = "the highest eight bits")
    static void theNinthBitIsNotOfTheHash() {
        int apartInTheNinthBit = 1;
        while ((apartInTheNinthBit * -1640531535) >>> 23 != 1) {
            apartInTheNinthBit++;
        }
        SnapshotTrie trie = trieOf(apartInTheNinthBit, 0);
        dueMeasures(trie, 0, 2, 5, 1, 5, 5);
        dueOrder(trie, 0, apartInTheNinthBit, 0);
    }

    @Says(where = "Terms, DIGITS", words = "its four DIGITS are two bits each, the highest first")
    static void theHighestDigitComesFirst() {
        SnapshotTrie trie = trieOf(key("1000"), key("0003"));
        dueMeasures(trie, 0, 2, 1, 0, 1, 1);
        dueOrder(trie, 0, key("0003"), key("1000"));
        SnapshotTrie alikeButForTheLast = trieOf(key("3331"), key("3330"));
        dueMeasures(alikeButForTheLast, 0, 2, 4, 0, 4, 4);
        dueOrder(alikeButForTheLast, 0, key("3330"), key("3331"));
    }

    // NODE, PLACES, ENTRY, BAG, ROOT

    @Says(where = "Terms, NODE", words = "A NODE of level 0 .. 3 has four PLACES, for the digit of its level (0 to 3)")
    static void eachLevelHasFourPlaces() {
        for (int level = 0; level < 4; level++) {
            String before = "0123".substring(0, level);
            String behind = "3333".substring(0, 3 - level);
            int[] keys = new int[4];
            for (int digit = 0; digit < 4; digit++) {
                keys[digit] = key(before + digit + behind);
            }
            SnapshotTrie trie = trieOf(keys[3], keys[0], keys[2], keys[1]);
            dueMeasures(trie, 0, 4, level + 1, 0, level + 1, level + 1);
            dueOrder(trie, 0, keys);
        }
    }

    @Says(where = "Terms, NODE", words = "for the digit of its level (0 to 3)")
    static void theOutermostPlacesHoldNodes() {
        SnapshotTrie trie = trieOf(key("3333", 0), key("0000", 0), key("3333", 1), key("0000", 1));
        dueMeasures(trie, 0, 4, 9, 2, 5, 9);
        dueOrder(trie, 0, key("0000", 0), key("0000", 1), key("3333", 0), key("3333", 1));
    }

    @Says(where = "Terms, EMPTY", words = "a place is EMPTY, has an ENTRY (a key and its value), or a node of the next level")
    static void aPlaceIsOneOfThree() {
        SnapshotTrie trie = trieOf(key("1000"), key("2000"), key("2100"));
        dueThrow("get at an empty place", NO_ELEMENT, () -> trie.get(0, key("0000")));
        dueThrow("get of another key at an entry", NO_ELEMENT, () -> trie.get(0, key("1000", 1)));
        dueThrow("get at an empty place of a node below", NO_ELEMENT, () -> trie.get(0, key("2200")));
        dueThrow("get of another key at an entry below", NO_ELEMENT, () -> trie.get(0, key("2100", 1)));
        dueMeasures(trie, 0, 3, 2, 0, 2, 2);
    }

    @Says(where = "Terms, BAG", words = "a row of up to six entries, in the order in which they came")
    static void aBagHasUpToSixEntries() {
        int[] keys = keysOfOneHash("1230", 7);
        int[] coming = {keys[5], keys[1], keys[4], keys[0], keys[3], keys[2]};
        SnapshotTrie trie = trieOf(coming);
        dueMeasures(trie, 0, 6, 5, 1, 5, 5);
        dueThrow("a seventh", STATE, () -> flag(trie.put(0, keys[6], 1)));
        dueOrder(trie, 0, coming);
        for (int at = 0; at < coming.length; at++) {
            due("value " + at, at + 1, trie.get(0, coming[at]));
        }
    }

    @Says(where = "Terms, BAG", words = "one of level 4 is a BAG")
    static void noNodeAboveLevel4IsABag() {
        SnapshotTrie trie = trieOf(key("2220"), key("2221"), key("2222"), key("2223"));
        due("bags of level 3", 0, trie.measure(0, 2));
        trie.put(0, key("2221", 1), 5);
        dueMeasures(trie, 0, 5, 5, 1, 5, 5);
    }

    @Says(where = "Terms, ROOT", words = "A map's ROOT is a node of level 0")
    static void theRootIsThereWithAnyNumberOfKeys() {
        SnapshotTrie trie = new SnapshotTrie();
        dueMeasures(trie, 0, 0, 1, 0, 1, 1);
        trie.put(0, 7, 1);
        dueMeasures(trie, 0, 1, 1, 0, 1, 1);
        trie.remove(0, 7);
        dueMeasures(trie, 0, 0, 1, 0, 1, 1);
    }

    // MAPS, GENERATION, BELONGS, COPIED

    @Says(where = "Terms, MAPS", words = "MAPS are numbered 0 .. 5")
    static void mapsAreNumbered0To5() {
        SnapshotTrie trie = new SnapshotTrie();
        for (int map = 1; map <= 5; map++) {
            due("snapshot", map, trie.snapshot(0, false));
        }
        for (int map = 0; map <= 5; map++) {
            dueYes("put into map " + map, trie.put(map, map, map));
        }
        for (int map : new int[] {-1, 6, Integer.MIN_VALUE, Integer.MAX_VALUE}) {
            dueThrow("put into map " + map, ARGUMENT, () -> flag(trie.put(map, 1, 1)));
        }
    }

    @Says(where = "Terms, MAPS", words = "0 is there at first, with an empty root")
    static void map0AloneIsThereAtFirst() {
        SnapshotTrie trie = new SnapshotTrie();
        dueMeasures(trie, 0, 0, 1, 0, 1, 1);
        dueOrder(trie, 0);
        for (int map = 1; map <= 5; map++) {
            int missing = map;
            dueThrow("map " + map, ARGUMENT, () -> trie.measure(missing, 0));
        }
    }

    @Says(where = "Terms, GENERATION", words = "a number that no other one has or had")
    static void noGenerationComesTwice() {
        SnapshotTrie trie = new SnapshotTrie();
        Set<Integer> seen = new HashSet<>();
        dueYes("at first", seen.add(trie.generation(0)));
        for (int round = 0; round < 40; round++) {
            int copy = trie.snapshot(0, round % 2 == 0);
            dueYes("of the map", seen.add(trie.generation(0)));
            dueYes("of the snapshot", seen.add(trie.generation(copy)));
            int iterator = trie.iterate(copy);
            dueYes("of what is iterated over", seen.add(trie.generation(copy)));
            dueThrow("its end", NO_ELEMENT, () -> trie.next(iterator));
            trie.drop(copy);
        }
    }

    @Says(where = "Terms, GENERATION", words = "1 for map 0, 2 for the next one that is made, and so on")
    static void generationsAreCountedWithoutGaps() {
        SnapshotTrie trie = new SnapshotTrie();
        due("map 0", 1, trie.generation(0));
        trie.iterate(0);
        due("the next one", 2, trie.generation(0));
        trie.snapshot(0, false);
        due("and so on, the map", 3, trie.generation(0));
        due("and so on, the snapshot", 4, trie.generation(1));
        trie.put(0, 1, 1);
        trie.drop(1);
        trie.iterate(0);
        due("writes and drops make none", 5, trie.generation(0));
    }

    @Says(where = "Terms, BELONGS", words = "each node BELONGS to the generation of the map that made it")
    static void aNodeStaysWithTheGenerationThatMadeIt() {
        SnapshotTrie trie = trieOf(key("0000"), key("0100"));
        due("made by the map", 2, trie.measure(0, 4));
        trie.iterate(0);
        due("of an older generation of the same map", 0, trie.measure(0, 4));
        trie.put(0, key("1000"), 3);
        due("the copied root alone", 1, trie.measure(0, 4));
        trie.put(0, key("1100"), 4);
        due("and a new node", 2, trie.measure(0, 4));
        trie.snapshot(0, false);
        due("the snapshot made none", 0, trie.measure(1, 4));
        trie.put(1, key("1100"), 5);
        due("those that it copied", 2, trie.measure(1, 4));
        due("are not the map's", 0, trie.measure(0, 4));
    }

    @Says(where = "Terms, COPIED", words = "when the node belongs to another one, it is COPIED")
    static void aNodeThatNobodyElseHasIsCopiedToo() {
        int[] keys = keysOfOneHash("0000", 2);
        SnapshotTrie trie = trieOf(keys);
        trie.drop(trie.snapshot(0, false));
        trie.put(0, keys[0], 5);
        due("copied after the snapshot was dropped", 5, trie.copied());
        trie.put(0, keys[0], 6);
        due("copied the second time", 0, trie.copied());
        dueOrder(trie, 0, keys);
        trie.put(0, keys[0], 7);
        due("copied after the iterator ended", 5, trie.copied());
    }

    @Says(where = "Terms, COPIED", words = "a new node of the map's generation with the same places")
    static void aCopyHasTheSamePlaces() {
        int[] bag = keysOfOneHash("0000", 6);
        int[] others = {key("0001"), key("0003"), key("0020"), key("0030"), key("0100"), key("0300"), key("3000")};
        SnapshotTrie trie = trieOf(bag);
        putAll(trie, 0, others);
        trie.snapshot(0, true);
        trie.put(0, bag[3], 33);
        due("copied", 5, trie.copied());
        dueMeasures(trie, 0, 13, 5, 1, 5, 5);
        dueMeasures(trie, 1, 13, 5, 1, 5, 0);
        for (int map = 0; map < 2; map++) {
            dueOrder(trie, map, bag[0], bag[1], bag[2], bag[3], bag[4], bag[5],
                others[0], others[1], others[2], others[3], others[4], others[5], others[6]);
        }
        due("written", 33, trie.get(0, bag[3]));
        due("as it was", 4, trie.get(1, bag[3]));
    }

    @Says(where = "Terms, COPIED", words = "takes its place in the node above (into which it writes, too)")
    static void aCopyTakesItsPlaceInTheNodeAbove() {
        int[] left = {key("0000", 0), key("0000", 1)};
        int[] right = {key("0001", 0), key("0001", 1)};
        SnapshotTrie trie = trieOf(left[0], left[1], right[0], right[1]);
        trie.snapshot(0, false);
        trie.put(0, left[0], 5);
        due("the whole way", 5, trie.copied());
        trie.put(0, right[0], 6);
        due("the other bag alone", 1, trie.copied());
        due("common", 0, trie.common(0, 1));
        dueMeasures(trie, 0, 4, 6, 2, 5, 6);
        due("the first is written", 5, trie.get(0, left[0]));
        due("the second is written", 6, trie.get(0, right[0]));
    }

    @Says(where = "Terms, COPIED", words = "or becomes the root")
    static void aCopyOfTheRootBecomesTheRoot() {
        SnapshotTrie trie = new SnapshotTrie();
        trie.snapshot(0, false);
        due("the empty root is common", 1, trie.common(0, 1));
        trie.put(1, 1, 1);
        due("copied", 1, trie.copied());
        due("common", 0, trie.common(0, 1));
        due("the snapshot's root", 1, trie.measure(1, 4));
        due("the map's root is empty", 0, trie.measure(0, 0));
        due("the map's root is not of its generation", 0, trie.measure(0, 4));
    }

    // PUTTING

    @Says(where = "Terms, PUTTING", words = "An empty place gets the entry")
    static void anEmptyPlaceGetsTheEntry() {
        SnapshotTrie trie = trieOf(key("0000"), key("0001"));
        for (String digits : new String[] {"3000", "0200", "0010", "0003"}) {
            dueYes("put", trie.put(0, key(digits), 5));
            due("get", 5, trie.get(0, key(digits)));
            due("no node more", 4, trie.measure(0, 1));
        }
    }

    @Says(where = "Terms, PUTTING", words = "An entry with this key gets the value")
    static void anEntryWithThisKeyGetsTheValue() {
        SnapshotTrie trie = trieOf(key("0000"), key("0100"), key("1000"));
        for (String digits : new String[] {"0000", "0100", "1000"}) {
            dueNo("put", trie.put(0, key(digits), 50));
            due("get", 50, trie.get(0, key(digits)));
        }
        dueMeasures(trie, 0, 3, 2, 0, 2, 2);
    }

    @Says(where = "Terms, PUTTING", words = "An entry with another key goes, with the new one,"
        + " into a new node of the next level, in its place")
    static void anEntryWithAnotherKeyGoesDown() {
        SnapshotTrie trie = trieOf(key("1000"), key("2300"), key("3000"));
        trie.put(0, key("2100"), 9);
        dueMeasures(trie, 0, 4, 2, 0, 2, 2);
        due("that which was there", 2, trie.get(0, key("2300")));
        due("the new one", 9, trie.get(0, key("2100")));
        dueOrder(trie, 0, key("1000"), key("2100"), key("2300"), key("3000"));
    }

    @Says(where = "Terms, PUTTING", words = "by their digits there, and so on, as long as they are alike")
    static void nodesAreMadeAsLongAsDigitsAreAlike() {
        for (int alike = 0; alike < 4; alike++) {
            String digits = "2222".substring(0, alike) + "0" + "1111".substring(alike + 1);
            SnapshotTrie trie = trieOf(key("2222"), key(digits));
            dueMeasures(trie, 0, 2, alike + 1, 0, alike + 1, alike + 1);
            dueOrder(trie, 0, key(digits), key("2222"));
        }
    }

    @Says(where = "Terms, PUTTING", words = "both into a bag behind the last digit, that which was there first")
    static void thatWhichWasThereIsTheBagsFirst() {
        int[] keys = keysOfOneHash("0110", 2);
        SnapshotTrie rising = trieOf(keys[0], keys[1]);
        dueMeasures(rising, 0, 2, 5, 1, 5, 5);
        dueOrder(rising, 0, keys[0], keys[1]);
        SnapshotTrie falling = trieOf(keys[1], keys[0]);
        dueOrder(falling, 0, keys[1], keys[0]);
        SnapshotTrie fromLevel3 = trieOf(keys[1], key("0111"));
        fromLevel3.put(0, keys[0], 3);
        dueMeasures(fromLevel3, 0, 3, 5, 1, 5, 5);
        dueOrder(fromLevel3, 0, keys[1], keys[0], key("0111"));
    }

    @Says(where = "Terms, PUTTING", words = "A bag gets the entry last")
    static void aBagGetsTheEntryLast() {
        int[] keys = keysOfOneHash("0220", 3);
        SnapshotTrie trie = trieOf(keys[2], keys[1], keys[0]);
        dueOrder(trie, 0, keys[2], keys[1], keys[0]);
        trie.remove(0, keys[2]);
        trie.put(0, keys[2], 4);
        dueOrder(trie, 0, keys[1], keys[0], keys[2]);
    }

    @Says(where = "Terms, PUTTING", words = "or its value, if the key is there")
    static void aBagsKeyKeepsItsPlace() {
        int[] keys = keysOfOneHash("0330", 6);
        SnapshotTrie trie = trieOf(keys);
        for (int at : new int[] {0, 3, 5}) {
            dueNo("put", trie.put(0, keys[at], 10 + at));
            due("get", 10 + at, trie.get(0, keys[at]));
        }
        due("another keeps its value", 2, trie.get(0, keys[1]));
        dueOrder(trie, 0, keys);
    }

    @Says(where = "Terms, PUTTING", words = "All nodes on the way are written into")
    static void aPutCopiesAllNodesOnItsWay() {
        String[] places = {"1000", "0100", "0010", "0001", "0000"};
        for (int level = 0; level < places.length; level++) {
            SnapshotTrie trie = trieOf(key("0000", 0), key("0000", 1));
            trie.snapshot(0, false);
            trie.put(0, key(places[level], 2), 3);
            due("copied down to level " + level, level + 1, trie.copied());
            due("own nodes", level + 1, trie.measure(0, 4));
            due("common", 4 - level, trie.common(0, 1));
        }
    }

    @Says(where = "Terms, PUTTING", words = "into a new node of the next level")
    static void aNewNodeIsNoCopy() {
        SnapshotTrie trie = trieOf(key("0000", 0));
        trie.snapshot(0, false);
        trie.put(0, key("0000", 1), 2);
        due("copied, the root alone", 1, trie.copied());
        dueMeasures(trie, 0, 2, 5, 1, 5, 5);
        dueMeasures(trie, 1, 1, 1, 0, 1, 0);
    }

    // REMOVING

    @Says(where = "Terms, REMOVING", words = "its entry leaves")
    static void theOthersOfABagKeepTheirOrder() {
        int[] keys = keysOfOneHash("0321", 6);
        for (int gone = 0; gone < 6; gone++) {
            SnapshotTrie trie = trieOf(keys);
            due("remove", gone + 1, trie.remove(0, keys[gone]));
            int[] left = new int[5];
            for (int at = 0; at < 5; at++) {
                left[at] = keys[at < gone ? at : at + 1];
            }
            dueMeasures(trie, 0, 5, 5, 1, 5, 5);
            dueOrder(trie, 0, left);
        }
    }

    @Says(where = "Terms, REMOVING", words = "a node (not the root)")
    static void theRootStaysWithOneEntryAndWithNone() {
        SnapshotTrie trie = trieOf(key("0000"), key("1000"));
        trie.remove(0, key("0000"));
        dueMeasures(trie, 0, 1, 1, 0, 1, 1);
        trie.remove(0, key("1000"));
        dueMeasures(trie, 0, 0, 1, 0, 1, 1);
        dueOrder(trie, 0);
    }

    @Says(where = "Terms, REMOVING", words = "a node (not the root) that has one entry and no node")
    static void aNodeWithOneEntryLeaves() {
        String[] others = {"0100", "0010", "0001"};
        for (int level = 1; level <= 3; level++) {
            int other = key(others[level - 1]);
            SnapshotTrie first = trieOf(key("0000"), other);
            dueMeasures(first, 0, 2, level + 1, 0, level + 1, level + 1);
            due("remove", 1, first.remove(0, key("0000")));
            dueMeasures(first, 0, 1, 1, 0, 1, 1);
            due("what stays", 2, first.get(0, other));
            SnapshotTrie second = trieOf(key("0000"), other);
            due("remove", 2, second.remove(0, other));
            dueMeasures(second, 0, 1, 1, 0, 1, 1);
            due("what stays", 1, second.get(0, key("0000")));
        }
    }

    @Says(where = "Terms, REMOVING", words = "that has one entry and no node")
    static void aNodeWithTwoEntriesStays() {
        SnapshotTrie trie = trieOf(key("0000"), key("0100"), key("0200"));
        trie.remove(0, key("0100"));
        dueMeasures(trie, 0, 2, 2, 0, 2, 2);
        dueOrder(trie, 0, key("0000"), key("0200"));
    }

    @Says(where = "Terms, REMOVING", words = "that has one entry and no node")
    static void aNodeWithAnEntryAndANodeStays() {
        SnapshotTrie trie = trieOf(key("0000"), key("0010"), key("0100"), key("0300"));
        trie.remove(0, key("0100"));
        dueMeasures(trie, 0, 3, 3, 0, 3, 3);
        dueOrder(trie, 0, key("0000"), key("0010"), key("0300"));
    }

    @Says(where = "Terms, REMOVING", words = "that has one entry and no node")
    static void aNodeWithANodeAloneStays() {
        SnapshotTrie trie = trieOf(key("0000"), key("0010"), key("0300"));
        trie.remove(0, key("0300"));
        dueMeasures(trie, 0, 2, 3, 0, 3, 3);
        dueOrder(trie, 0, key("0000"), key("0010"));
    }

    @Says(where = "Terms, REMOVING", words = "(a bag with one entry) leaves")
    static void aBagLeavesWithOneEntryAndStaysWithTwo() {
        int[] keys = keysOfOneHash("1001", 3);
        SnapshotTrie trie = trieOf(keys[0], keys[1], keys[2], key("1002"));
        trie.remove(0, keys[1]);
        dueMeasures(trie, 0, 3, 5, 1, 5, 5);
        trie.remove(0, keys[0]);
        dueMeasures(trie, 0, 2, 4, 0, 4, 4);
        due("the bag's last", 3, trie.get(0, keys[2]));
    }

    @Says(where = "Terms, REMOVING", words = "its entry comes into its place in the node above")
    static void theEntryThatIsLeftComesIntoThePlace() {
        int[] keys = keysOfOneHash("1011", 2);
        int[] left = {key("1000"), key("1010")};
        int[] right = {key("1012"), key("1300")};
        SnapshotTrie trie = trieOf(right[1], keys[0], right[0], keys[1], left[1], left[0]);
        trie.remove(0, keys[0]);
        dueOrder(trie, 0, left[0], left[1], keys[1], right[0], right[1]);
        due("with its value", 4, trie.get(0, keys[1]));
        trie.put(0, keys[0], 9);
        due("from there into a bag again", 1, trie.measure(0, 2));
        dueOrder(trie, 0, left[0], left[1], keys[1], keys[0], right[0], right[1]);
    }

    @Says(where = "Terms, REMOVING", words = "then, from there up")
    static void nodesLeaveUpToOneThatHasMore() {
        String[] besides = {"1000", "0100", "0010", "0001"};
        for (int level = 0; level < 4; level++) {
            SnapshotTrie trie = trieOf(key("0000", 0), key("0000", 1), key(besides[level]));
            trie.remove(0, key("0000", 0));
            dueMeasures(trie, 0, 2, level + 1, 0, level + 1, level + 1);
            due("the bag's last", 2, trie.get(0, key("0000", 1)));
            due("beside it", 3, trie.get(0, key(besides[level])));
        }
    }

    @Says(where = "Terms, REMOVING", words = "then, from there up")
    static void nodesLeaveUpToOneThatHasANode() {
        SnapshotTrie trie = trieOf(key("0000", 0), key("0000", 1), key("0200"), key("0210"));
        dueMeasures(trie, 0, 4, 6, 1, 5, 6);
        trie.remove(0, key("0000", 1));
        dueMeasures(trie, 0, 3, 3, 0, 3, 3);
        dueOrder(trie, 0, key("0000", 0), key("0200"), key("0210"));
    }

    @Says(where = "Terms, REMOVING", words = "All nodes on the way are written into (before)")
    static void nodesThatLeaveAreCopiedBefore() {
        String[] places = {"1000", "0100", "0010", "0001", "0000"};
        for (int level = 0; level < places.length; level++) {
            SnapshotTrie trie = trieOf(key(places[level], 0), key("0000", 1));
            trie.snapshot(0, false);
            trie.remove(0, key(places[level], 0));
            due("copied down to level " + level, level + 1, trie.copied());
            dueMeasures(trie, 0, 1, 1, 0, 1, 1);
            dueMeasures(trie, 1, 2, level + 1, level / 4, level + 1, 0);
        }
    }

    @Says(where = "Terms, REMOVING", words = "All nodes on the way are written into")
    static void nodesBesideTheWayOfARemovalStay() {
        SnapshotTrie trie = trieOf(key("0000"), key("0010"), key("1000"), key("1100"), key("0200"));
        trie.snapshot(0, false);
        trie.remove(0, key("0200"));
        due("copied", 2, trie.copied());
        due("common", 2, trie.common(0, 1));
    }

    // A call that finds that nothing is to be done

    @Says(where = "Terms", words = NOTHING_TO_BE_DONE)
    static void aKeyThatIsNotThereWritesNothing() {
        for (int there = 0; there < 6; there++) {
            SnapshotTrie trie = trieOf(keysOfOneHash("0000", there));
            trie.snapshot(0, false);
            int nodes = trie.measure(0, 1);
            dueNo("replace", trie.replace(0, key("0000", 6), 0, 5));
            due("copied", 0, trie.copied());
            dueThrow("remove", NO_ELEMENT, () -> trie.remove(0, key("0000", 6)));
            due("common", nodes, trie.common(0, 1));
            due("own nodes", 0, trie.measure(0, 4));
            due("keys", there, trie.measure(0, 0));
        }
    }

    @Says(where = "Terms", words = NOTHING_TO_BE_DONE)
    static void aValueThatIsNotReplacedWritesNothing() {
        SnapshotTrie trie = trieOf(key("0000", 0), key("0000", 1));
        trie.snapshot(0, false);
        dueNo("replace by another", trie.replace(0, key("0000", 0), 2, 3));
        dueNo("replace by that which is there", trie.replace(0, key("0000", 0), 2, 1));
        due("copied", 0, trie.copied());
        due("common", 5, trie.common(0, 1));
        due("own nodes", 0, trie.measure(0, 4));
        due("the value", 1, trie.get(0, key("0000", 0)));
    }

    @Says(where = "Terms", words = "putting the same value once more writes")
    static void puttingTheSameValueOnceMoreWrites() {
        int[] keys = {key("0000", 0), key("0000", 1), key("1000")};
        SnapshotTrie trie = trieOf(keys);
        trie.snapshot(0, false);
        dueNo("put of an entry", trie.put(0, keys[2], 3));
        due("copied", 1, trie.copied());
        dueNo("put in a bag", trie.put(0, keys[0], 1));
        due("copied", 4, trie.copied());
        due("common", 0, trie.common(0, 1));
        trie.snapshot(0, false);
        dueYes("replace by the same", trie.replace(0, keys[1], 2, 2));
        due("copied", 5, trie.copied());
    }

    // SNAPSHOT, READ-ONLY

    @Says(where = "Terms, SNAPSHOT", words = "a new map, of the least number that there is not")
    static void aSnapshotHasTheLeastNumberThatThereIsNot() {
        SnapshotTrie trie = new SnapshotTrie();
        for (int map = 1; map <= 5; map++) {
            due("a new number", map, trie.snapshot(map - 1, false));
        }
        for (int gone : new int[] {5, 1, 3}) {
            trie.drop(gone);
        }
        due("the first gap", 1, trie.snapshot(4, false));
        due("the second gap", 3, trie.snapshot(4, false));
        due("the last number", 5, trie.snapshot(4, false));
    }

    @Says(where = "Terms, SNAPSHOT", words = "with the same root")
    static void aSnapshotHasTheSameRoot() {
        SnapshotTrie empty = new SnapshotTrie();
        empty.snapshot(0, false);
        due("common of empty maps", 1, empty.common(0, 1));
        SnapshotTrie trie = trieOf(key("0000", 0), key("0000", 1));
        trie.snapshot(0, true);
        trie.snapshot(1, false);
        due("common of a snapshot of a snapshot", 5, trie.common(0, 2));
        dueOrder(trie, 2, key("0000", 0), key("0000", 1));
    }

    @Says(where = "Terms, SNAPSHOT", words = "the map and the new one get new generations, the map first")
    static void theMapGetsItsGenerationFirst() {
        SnapshotTrie trie = new SnapshotTrie();
        for (int map = 0; map < 5; map++) {
            int copy = trie.snapshot(map, map % 2 == 0);
            due("the map", 2 * map + 2, trie.generation(map));
            due("the new one", 2 * map + 3, trie.generation(copy));
        }
        due("no other map gets one", 2, trie.generation(0));
    }

    @Says(where = "Terms, READ-ONLY", words = "When it is READ-ONLY nothing can be written")
    static void aReadOnlyMapRefusesWhatWouldChangeNothingToo() {
        SnapshotTrie trie = trieOf(1);
        trie.snapshot(0, true);
        dueThrow("put of a new key", UNSUPPORTED, () -> flag(trie.put(1, 2, 2)));
        dueThrow("put of the same value", UNSUPPORTED, () -> flag(trie.put(1, 1, 1)));
        dueThrow("remove", UNSUPPORTED, () -> trie.remove(1, 1));
        dueThrow("remove of a missing key", UNSUPPORTED, () -> trie.remove(1, 2));
        dueThrow("replace", UNSUPPORTED, () -> flag(trie.replace(1, 1, 1, 2)));
        dueThrow("replace of another value", UNSUPPORTED, () -> flag(trie.replace(1, 1, 5, 2)));
        dueThrow("replace of a missing key", UNSUPPORTED, () -> flag(trie.replace(1, 2, 1, 2)));
        due("what it has", 1, trie.get(1, 1));
        dueNo("the map itself can be written", trie.put(0, 1, 5));
    }

    @Says(where = "Terms, READ-ONLY", words = "When it is READ-ONLY nothing can be written")
    static void aReadOnlyMapCanBeUsedOtherwise() {
        SnapshotTrie trie = trieOf(1);
        trie.snapshot(0, true);
        dueMeasures(trie, 1, 1, 1, 0, 1, 0);
        due("common", 1, trie.common(0, 1));
        dueOrder(trie, 1, 1);
        due("a snapshot of it", 2, trie.snapshot(1, false));
        dueYes("can be written", trie.put(2, 2, 2));
        due("a read-only one of it", 3, trie.snapshot(1, true));
        dueThrow("can not be written", UNSUPPORTED, () -> flag(trie.put(3, 2, 2)));
        due("drop", 1, trie.drop(1));
        due("its number", 1, trie.snapshot(3, false));
        dueYes("is not read-only for good", trie.put(1, 2, 2));
    }

    // ITERATING, ITERATOR

    @Says(where = "Terms, ITERATOR", words = "ITERATING over a map makes an ITERATOR 0 .. 3")
    static void iteratorsAreNumbered0To3() {
        SnapshotTrie trie = trieOf(1);
        for (int iterator = 0; iterator <= 3; iterator++) {
            due("iterate", iterator, trie.iterate(0));
        }
        for (int iterator = 0; iterator <= 3; iterator++) {
            dueRest(trie, iterator, 1);
        }
        for (int iterator : new int[] {-1, 4, Integer.MIN_VALUE, Integer.MAX_VALUE}) {
            dueThrow("next(" + iterator + ")", ARGUMENT, () -> trie.next(iterator));
        }
    }

    @Says(where = "Terms, ITERATOR", words = "which has its root")
    static void anIteratorKeepsTheRootThatThereWas() {
        int[] bag = keysOfOneHash("0000", 3);
        SnapshotTrie trie = trieOf(bag[0], bag[1], bag[2], key("3000"));
        int iterator = trie.iterate(0);
        due("first", bag[0], trie.next(iterator));
        trie.remove(0, bag[1]);
        trie.put(0, key("1000"), 9);
        trie.put(0, bag[2], 9);
        trie.put(0, key("3100"), 9);
        trie.replace(0, key("3000"), 4, 9);
        due("removed since", bag[1], trie.next(iterator));
        due("its value", 2, trie.value());
        due("put since", bag[2], trie.next(iterator));
        due("its value", 3, trie.value());
        due("replaced since", key("3000"), trie.next(iterator));
        due("its value", 4, trie.value());
        dueRest(trie, iterator);
        dueOrder(trie, 0, bag[0], bag[2], key("1000"), key("3000"), key("3100"));
    }

    @Says(where = "Terms, ITERATOR", words = "which has its root")
    static void anIteratorOfADroppedMapGoesOn() {
        SnapshotTrie trie = trieOf(key("0000"), key("1000"), key("2000"));
        int copy = trie.snapshot(0, false);
        int iterator = trie.iterate(copy);
        due("first", key("0000"), trie.next(iterator));
        trie.drop(copy);
        trie.put(trie.snapshot(0, false), key("1000"), 9);
        dueRest(trie, iterator, key("1000"), key("2000"));
    }

    @Says(where = "Terms, ITERATING", words = "the map gets a new generation")
    static void theMapThatIsIteratedOverGetsANewGeneration() {
        SnapshotTrie trie = trieOf(1);
        trie.snapshot(0, true);
        trie.iterate(0);
        due("the map", 4, trie.generation(0));
        due("no other one", 3, trie.generation(1));
        trie.iterate(1);
        due("a read-only one", 5, trie.generation(1));
        trie.put(0, 1, 2);
        due("so the next write copies", 1, trie.copied());
        trie.put(0, 1, 3);
        due("but once", 0, trie.copied());
    }

    @Says(where = "Terms, ITERATING", words = "It gives entries in the order of places,"
        + " what is in a node in its turn, a bag's in their order")
    static void entriesComeInTheOrderOfPlaces() {
        int[] order = {key("0000", 2), key("0000", 0), key("0000", 1), key("0001"), key("0100"), key("1000"),
            key("2000"), key("2330"), key("2333", 1), key("2333", 0), key("3000")};
        SnapshotTrie trie = new SnapshotTrie();
        for (int at : new int[] {10, 8, 4, 0, 6, 1, 9, 3, 2, 7, 5}) {
            trie.put(0, order[at], at);
        }
        dueOrder(trie, 0, order);
    }

    // Exceptions

    @Says(where = "Terms", words = "Of several exceptions the one that a call names first is thrown")
    static void putNamesTheMapThenReadOnlyThenFull() {
        SnapshotTrie trie = trieOf(keysOfManyHashes(54));
        putAll(trie, 0, keysOfOneHash("3333", 6));
        int seventh = key("3333", 6);
        dueThrow("no map and no room", ARGUMENT, () -> flag(trie.put(6, seventh, 1)));
        trie.snapshot(0, true);
        dueThrow("read-only and no room", UNSUPPORTED, () -> flag(trie.put(1, seventh, 1)));
        dueThrow("no room in the map and the bag", STATE, () -> flag(trie.put(0, seventh, 1)));
    }

    @Says(where = "Terms", words = "Of several exceptions the one that a call names first is thrown")
    static void removeNamesTheMapThenReadOnlyThenTheKey() {
        SnapshotTrie trie = new SnapshotTrie();
        trie.snapshot(0, true);
        dueThrow("no map and no key", ARGUMENT, () -> trie.remove(2, 1));
        dueThrow("read-only and no key", UNSUPPORTED, () -> trie.remove(1, 1));
        dueThrow("no key", NO_ELEMENT, () -> trie.remove(0, 1));
        trie.drop(1);
        dueThrow("was read-only", ARGUMENT, () -> trie.remove(1, 1));
    }

    @Says(where = "Terms", words = "Of several exceptions the one that a call names first is thrown")
    static void theMissingMapComesBeforeTheRest() {
        SnapshotTrie trie = new SnapshotTrie();
        for (int map = 1; map <= 5; map++) {
            trie.snapshot(0, true);
        }
        for (int iterator = 0; iterator <= 3; iterator++) {
            trie.iterate(0);
        }
        for (int map : new int[] {-1, 6}) {
            dueThrow("get of a missing key", ARGUMENT, () -> trie.get(map, 1));
            dueThrow("replace of a missing key", ARGUMENT, () -> flag(trie.replace(map, 1, 1, 1)));
            dueThrow("snapshot when there are six", ARGUMENT, () -> trie.snapshot(map, true));
            dueThrow("drop", ARGUMENT, () -> trie.drop(map));
            dueThrow("iterate when there are four", ARGUMENT, () -> trie.iterate(map));
            dueThrow("measure of what there is not", ARGUMENT, () -> trie.measure(map, 5));
        }
    }
}
