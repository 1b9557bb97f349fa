import java.lang.annotation.Retention;
import java.lang.annotation.RetentionPolicy;
import java.lang.reflect.InvocationTargetException;
import java.lang.reflect.Method;
import java.util.Arrays;
import java.util.Comparator;
import java.util.NoSuchElementException;

/**
 * What the tests made by hand have in common: every method that bears a Says is a test of its own,
 * so none can be written and then forgotten in a list.
 */
abstract class Checks {
    static final String ARGUMENT = "IllegalArgumentException";
    static final String STATE = "IllegalStateException";
    static final String UNSUPPORTED = "UnsupportedOperationException";
    static final String NO_ELEMENT = "NoSuchElementException";

    private static final int MANY_KEYS = 1000000;

    private static String test = "";
    private static int ran = 0;
    private static int wrong = 0;

    /** The promise or the term of the document that a test is for, and the words there or what they are about. */
    @Retention(RetentionPolicy.RUNTIME)
    @interface Says {
        String where();

        String words();
    }

    interface Call {
        long answer();
    }

    static void runTestsOf(Class<?> tests) {
        Method[] methods = tests.getDeclaredMethods();
        Arrays.sort(methods, Comparator.comparing(Method::getName));
        for (Method method : methods) {
            if (method.isAnnotationPresent(Says.class)) {
                run(method);
            }
        }
        System.out.println(ran + " tests of sentences, " + wrong + " answers are not as due");
        if (wrong != 0 || ran == 0) {
            System.exit(1);
        }
    }

    private static void run(Method method) {
        Says says = method.getAnnotation(Says.class);
        test = says.where() + ": " + says.words() + " [" + method.getName() + "]";
        ran++;
        try {
            method.invoke(null);
        } catch (InvocationTargetException e) {
            complain("ended by " + e.getCause());
        } catch (IllegalAccessException e) {
            complain("can not be called: " + e);
        }
    }

    private static void complain(String what) {
        wrong++;
        System.out.println(test + ": " + what);
    }

    static void due(String what, long want, long got) {
        if (got != want) {
            complain(what + " answered " + got + ", due is " + want);
        }
    }

    static void due(String what, String want, String got) {
        if (!got.equals(want)) {
            complain(what + " gave " + got + ", due is " + want);
        }
    }

    static void dueYes(String what, boolean got) {
        due(what, 1, flag(got));
    }

    static void dueNo(String what, boolean got) {
        due(what, 0, flag(got));
    }

    static void dueThrow(String what, String want, Call call) {
        due(what, want, thrownBy(call));
    }

    /** Of a map: keys, nodes with bags, bags, levels, nodes of its generation. */
    static void dueMeasures(SnapshotTrie trie, int map, int... wants) {
        for (int what = 0; what < wants.length; what++) {
            due("measure(" + map + ", " + what + ")", wants[what], trie.measure(map, what));
        }
    }

    /** That an iterator over the map gives these keys and no other. */
    static void dueOrder(SnapshotTrie trie, int map, int... keys) {
        dueRest(trie, trie.iterate(map), keys);
    }

    /** That an iterator gives these keys yet and no other. */
    static void dueRest(SnapshotTrie trie, int iterator, int... keys) {
        for (int at = 0; at < keys.length; at++) {
            due("key " + at + " of iterator " + iterator, keys[at], trie.next(iterator));
        }
        dueThrow("the end of iterator " + iterator, NO_ELEMENT, () -> trie.next(iterator));
    }

    static String thrownBy(Call call) {
        try {
            return "the answer " + call.answer();
        } catch (RuntimeException e) {
            return e.getClass().getSimpleName();
        }
    }

    static long flag(boolean answer) {
        return answer ? 1 : 0;
    }

    /** The n-th key, from 0 up, whose hash has these digits. */
    static int key(String digits, int n) {
        int hash = Integer.parseInt(digits, 4);
        int left = n;
        for (int key = 0; key < MANY_KEYS; key++) {
            long product = (key * -1640531535L) & 0xFFFFFFFFL;
            if (product >> 24 == hash && left-- == 0) {
                return key;
            }
        }
        throw new NoSuchElementException("no such key");
    }

    static int key(String digits) {
        return key(digits, 0);
    }

    /** The first keys whose hash has these digits. */
    static int[] keysOfOneHash(String digits, int count) {
        int[] keys = new int[count];
        for (int n = 0; n < count; n++) {
            keys[n] = key(digits, n);
        }
        return keys;
    }

    /** A key of each of the lowest hashes. */
    static int[] keysOfManyHashes(int count) {
        int[] keys = new int[count];
        for (int hash = 0; hash < count; hash++) {
            keys[hash] = key(Integer.toString(hash, 4), 0);
        }
        return keys;
    }

    /** A new object whose map 0 has these keys, put in this order with the values 1, 2 and so on. */
    static SnapshotTrie trieOf(int... keys) {
        SnapshotTrie trie = new SnapshotTrie();
        putAll(trie, 0, keys);
        return trie;
    }

    static void putAll(SnapshotTrie trie, int map, int... keys) {
        for (int at = 0; at < keys.length; at++) {
            trie.put(map, keys[at], at + 1);
        }
    }
}
