import java.util.ArrayList;
import java.util.HashMap;
import java.util.LinkedHashMap;
import java.util.List;
import java.util.Map;

/**
 * Long runs of calls against a model of another make: it has no trie, but says which prefixes of
 * hashes are nodes by counting the keys that have them, and knows a node by a number.
 */
public final class ModelTest {
    private static final int RUNS = 4000;
    private static final int CALLS = 512;
    private static final int CALLS_BEFORE_AUDIT = 320;

    private long seed;
    private final SnapshotTrie trie = new SnapshotTrie();
    private final Model model = new Model();
    private final int[] keys;
    private int calls = 0;
    private boolean right = true;
    private final StringBuilder log = new StringBuilder();

    private ModelTest(int run) {
        seed = run * 7919L + 17;
        keys = chooseKeys(run % 5);
    }

    public static void main(String[] args) {
        int wrong = 0;
        for (int run = 0; run < RUNS && wrong < 3; run++) {
            ModelTest test = new ModelTest(run);
            if (!test.passes()) {
                wrong++;
                System.out.println("run " + run + ":\n" + test.log);
            }
        }
        System.out.println(wrong == 0 ? "the class answers as the model does" : wrong + " runs went wrong");
        if (wrong != 0) {
            System.exit(1);
        }
    }

    private boolean passes() {
        int writes = 40 + below(40);
        if (below(4) == 0) {
            fillAMap();
        }
        while (right && calls < CALLS_BEFORE_AUDIT) {
            if (below(100) < writes) {
                callWriter();
            } else {
                callOther();
            }
        }
        audit();
        return right;
    }

    /** Calls by chance alone hardly ever bring a map to its 60 keys. */
    private void fillAMap() {
        for (int at = 0; at < Math.min(keys.length, 62); at++) {
            put(0, keys[at], at);
        }
    }

    private int below(int bound) {
        seed = seed * 6364136223846793005L + 1442695040888963407L;
        return (int) ((seed >>> 33) % bound);
    }

    private int[] chooseKeys(int kind) {
        int[] chosen = new int[kind == 0 ? 16 : kind == 1 ? 24 : kind == 2 ? 90 : 70];
        int first = below(1000) - 500;
        int hash = below(256);
        for (int i = 0; i < chosen.length; i++) {
            chosen[i] = switch (kind) {
                case 0 -> keyOfHash((hash & ~1) | below(2));
                case 1 -> keyOfHash((hash & ~15) | below(16));
                case 2 -> first + i;
                case 3 -> keyOfHash(below(2) == 0 ? below(256) : hash);
                default -> below(Integer.MAX_VALUE) - below(Integer.MAX_VALUE);
            };
        }
        return chosen;
    }

    private int keyOfHash(int hash) {
        int key = below(100000) - 50000;
        while (Model.hash(key) != hash) {
            key++;
        }
        return key;
    }

    private int someMap() {
        int pick = below(40);
        if (pick == 0) {
            return below(2) == 0 ? -1 : 6;
        }
        return pick < 16 ? 0 : below(6);
    }

    private int someKey() {
        return keys[below(keys.length)];
    }

    private void callWriter() {
        int map = someMap();
        int key = someKey();
        int pick = below(20);
        if (pick < 12) {
            put(map, key, below(3));
        } else if (pick < 17) {
            check("remove(" + map + ", " + key + ")", () -> trie.remove(map, key), () -> model.remove(map, key));
        } else {
            long old = below(3);
            long value = below(3);
            check("replace(" + map + ", " + key + ", " + old + ", " + value + ")",
                () -> trie.replace(map, key, old, value) ? 1 : 0, () -> model.replace(map, key, old, value));
        }
        if (below(2) == 0) {
            check("copied()", () -> trie.copied(), () -> model.copied);
        }
    }

    private void put(int map, int key, long value) {
        check("put(" + map + ", " + key + ", " + value + ")",
            () -> trie.put(map, key, value) ? 1 : 0, () -> model.put(map, key, value));
    }

    private void callOther() {
        int map = someMap();
        switch (below(12)) {
            case 0, 1 -> {
                boolean readOnly = below(4) == 0;
                check("snapshot(" + map + ", " + readOnly + ")",
                    () -> trie.snapshot(map, readOnly), () -> model.snapshot(map, readOnly));
            }
            case 2 -> check("drop(" + map + ")", () -> trie.drop(map), () -> model.drop(map));
            case 3 -> check("iterate(" + map + ")", () -> trie.iterate(map), () -> model.iterate(map));
            case 4, 5, 6 -> callNext();
            case 7, 8 -> checkMeasure(map, below(7) - 1);
            case 9 -> checkCommon(map, someMap());
            case 10 -> check("generation(" + map + ")", () -> trie.generation(map), () -> model.map(map).generation);
            default -> checkGet(map, someKey());
        }
    }

    private void callNext() {
        int iterator = below(6) - 1;
        for (int times = 1 + below(12); times > 0; times--) {
            check("next(" + iterator + ")", () -> trie.next(iterator), () -> model.next(iterator));
        }
        check("value()", () -> trie.value(), () -> model.value);
    }

    private void checkMeasure(int map, int what) {
        check("measure(" + map + ", " + what + ")", () -> trie.measure(map, what), () -> model.measure(map, what));
    }

    private void checkCommon(int a, int b) {
        check("common(" + a + ", " + b + ")", () -> trie.common(a, b), () -> model.common(a, b));
    }

    private void checkGet(int map, int key) {
        check("get(" + map + ", " + key + ")", () -> trie.get(map, key), () -> model.get(map, key));
    }

    /** What there is at the end, for a fault can lie still until something asks for it. */
    private void audit() {
        for (int map = 0; map < 6; map++) {
            for (int what = 0; what < 5; what++) {
                checkMeasure(map, what);
            }
            for (int other = 0; other <= map; other++) {
                checkCommon(map, other);
            }
        }
        for (int at = 0; calls < CALLS && at < keys.length; at++) {
            checkGet(at % 6, keys[at]);
        }
    }

    private interface Call {
        long answer();
    }

    private void check(String name, Call real, Call wanted) {
        if (!right || calls >= CALLS) {
            return;
        }
        calls++;
        String got = outcome(real);
        String want = outcome(wanted);
        log.append("  ").append(name).append(" = ").append(got).append('\n');
        if (!got.equals(want)) {
            right = false;
            log.append("    due is ").append(want).append('\n');
        }
    }

    private static String outcome(Call call) {
        try {
            return Long.toString(call.answer());
        } catch (RuntimeException e) {
            return "throws." + e.getClass().getSimpleName();
        }
    }

    private static final class ModelMap {
        /** In the order in which the keys came. */
        final Map<Integer, Long> entries = new LinkedHashMap<>();
        /** For the digits that lead to a node its number and its generation. */
        final Map<String, int[]> nodes = new HashMap<>();
        int generation;
        boolean readOnly;
    }

    private static final class Model {
        final ModelMap[] maps = new ModelMap[6];
        final List<List<long[]>> iterators = new ArrayList<>();
        int generations = 1;
        int nodes = 0;
        int copied = 0;
        long value = 0;

        Model() {
            maps[0] = new ModelMap();
            maps[0].generation = 1;
            maps[0].nodes.put("", new int[] {nodes++, 1});
            for (int i = 0; i < 4; i++) {
                iterators.add(null);
            }
        }

        static int hash(int key) {
            return (int) (((key * -1640531535L) & 0xFFFFFFFFL) >> 24);
        }

        static String digits(int key) {
            String text = Integer.toString(hash(key), 4);
            return "0000".substring(text.length()) + text;
        }

        ModelMap map(int map) {
            if (map < 0 || map > 5 || maps[map] == null) {
                throw new IllegalArgumentException();
            }
            return maps[map];
        }

        ModelMap writable(int map) {
            if (map(map).readOnly) {
                throw new UnsupportedOperationException();
            }
            return maps[map];
        }

        void copyWay(ModelMap map, int key) {
            copied = 0;
            for (int length = 0; length <= 4; length++) {
                String prefix = digits(key).substring(0, length);
                int[] node = map.nodes.get(prefix);
                if (node != null && node[1] != map.generation) {
                    map.nodes.put(prefix, new int[] {nodes++, map.generation});
                    copied++;
                }
            }
        }

        void setNodes(ModelMap map) {
            Map<String, Integer> keys = new HashMap<>();
            for (int key : map.entries.keySet()) {
                for (int length = 1; length <= 4; length++) {
                    keys.merge(digits(key).substring(0, length), 1, Integer::sum);
                }
            }
            keys.values().removeIf(count -> count < 2);
            map.nodes.keySet().removeIf(prefix -> !prefix.isEmpty() && !keys.containsKey(prefix));
            for (String prefix : keys.keySet()) {
                map.nodes.computeIfAbsent(prefix, unused -> new int[] {nodes++, map.generation});
            }
        }

        long put(int map, int key, long value) {
            ModelMap target = writable(map);
            boolean isNew = !target.entries.containsKey(key);
            long ofHash = target.entries.keySet().stream().filter(other -> hash(other) == hash(key)).count();
            if (isNew && (target.entries.size() == 60 || ofHash == 6)) {
                throw new IllegalStateException();
            }
            copyWay(target, key);
            target.entries.put(key, value);
            setNodes(target);
            return isNew ? 1 : 0;
        }

        long get(int map, int key) {
            Long found = map(map).entries.get(key);
            if (found == null) {
                throw new java.util.NoSuchElementException();
            }
            return found;
        }

        long remove(int map, int key) {
            ModelMap target = writable(map);
            long found = get(map, key);
            copyWay(target, key);
            target.entries.remove(key);
            setNodes(target);
            return found;
        }

        long replace(int map, int key, long old, long value) {
            Long found = writable(map).entries.get(key);
            if (found == null || found != old) {
                copied = 0;
                return 0;
            }
            put(map, key, value);
            return 1;
        }

        long snapshot(int map, boolean readOnly) {
            ModelMap source = map(map);
            for (int number = 0; number < 6; number++) {
                if (maps[number] == null) {
                    source.generation = ++generations;
                    maps[number] = new ModelMap();
                    maps[number].entries.putAll(source.entries);
                    maps[number].nodes.putAll(source.nodes);
                    maps[number].generation = ++generations;
                    maps[number].readOnly = readOnly;
                    return number;
                }
            }
            throw new IllegalStateException();
        }

        long drop(int map) {
            int size = map(map).entries.size();
            if (map == 0) {
                throw new IllegalStateException();
            }
            maps[map] = null;
            return size;
        }

        long iterate(int map) {
            ModelMap source = map(map);
            int number = iterators.indexOf(null);
            if (number < 0) {
                throw new IllegalStateException();
            }
            source.generation = ++generations;
            List<long[]> all = new ArrayList<>();
            source.entries.forEach((key, held) -> all.add(new long[] {key, held}));
            all.sort((a, b) -> Integer.compare(hash((int) a[0]), hash((int) b[0])));
            iterators.set(number, all);
            return number;
        }

        long next(int iterator) {
            if (iterator < 0 || iterator > 3 || iterators.get(iterator) == null) {
                throw new IllegalArgumentException();
            }
            if (iterators.get(iterator).isEmpty()) {
                iterators.set(iterator, null);
                throw new java.util.NoSuchElementException();
            }
            long[] entry = iterators.get(iterator).remove(0);
            value = entry[1];
            return entry[0];
        }

        long measure(int map, int what) {
            ModelMap measured = map(map);
            return switch (what) {
                case 0 -> measured.entries.size();
                case 1 -> measured.nodes.size();
                case 2 -> measured.nodes.keySet().stream().filter(prefix -> prefix.length() == 4).count();
                case 3 -> measured.nodes.keySet().stream().mapToInt(String::length).max().orElse(0) + 1;
                case 4 -> measured.nodes.values().stream().filter(node -> node[1] == measured.generation).count();
                default -> throw new IllegalArgumentException();
            };
        }

        long common(int a, int b) {
            ModelMap first = map(a);
            ModelMap second = map(b);
            return first.nodes.keySet().stream().filter(prefix -> second.nodes.containsKey(prefix)
                && second.nodes.get(prefix)[0] == first.nodes.get(prefix)[0]).count();
        }
    }
}
