import java.lang.reflect.Constructor;
import java.lang.reflect.Field;
import java.lang.reflect.Method;
import java.lang.reflect.Modifier;
import java.util.Arrays;
import java.util.Set;
import java.util.TreeSet;

/** The class has the document's face and no other member that is not private. */
public final class FaceTest {
    private static final String[] FACE = {
        "public static final int SnapshotTrie.NONE",
        "public SnapshotTrie()",
        "public boolean SnapshotTrie.put(int,int,long) throws java.lang.IllegalArgumentException,"
            + "java.lang.UnsupportedOperationException,java.lang.IllegalStateException",
        "public long SnapshotTrie.get(int,int) throws java.lang.IllegalArgumentException,"
            + "java.util.NoSuchElementException",
        "public long SnapshotTrie.remove(int,int) throws java.lang.IllegalArgumentException,"
            + "java.lang.UnsupportedOperationException,java.util.NoSuchElementException",
        "public boolean SnapshotTrie.replace(int,int,long,long) throws java.lang.IllegalArgumentException,"
            + "java.lang.UnsupportedOperationException",
        "public int SnapshotTrie.snapshot(int,boolean) throws java.lang.IllegalArgumentException,"
            + "java.lang.IllegalStateException",
        "public int SnapshotTrie.drop(int) throws java.lang.IllegalArgumentException,"
            + "java.lang.IllegalStateException",
        "public int SnapshotTrie.iterate(int) throws java.lang.IllegalArgumentException,"
            + "java.lang.IllegalStateException",
        "public int SnapshotTrie.next(int) throws java.lang.IllegalArgumentException,"
            + "java.util.NoSuchElementException",
        "public long SnapshotTrie.value()",
        "public int SnapshotTrie.copied()",
        "public int SnapshotTrie.measure(int,int) throws java.lang.IllegalArgumentException",
        "public int SnapshotTrie.common(int,int) throws java.lang.IllegalArgumentException",
        "public int SnapshotTrie.generation(int) throws java.lang.IllegalArgumentException",
    };

    public static void main(String[] args) {
        Set<String> due = new TreeSet<>(Arrays.asList(FACE));
        Set<String> there = openMembers();
        Set<String> missing = new TreeSet<>(due);
        missing.removeAll(there);
        there.removeAll(due);
        missing.forEach(member -> System.out.println("missing: " + member));
        there.forEach(member -> System.out.println("not in the face: " + member));
        boolean isFinal = SnapshotTrie.class.getModifiers() == (Modifier.PUBLIC | Modifier.FINAL);
        if (!isFinal) {
            System.out.println("the class is not public and final");
        }
        if (!missing.isEmpty() || !there.isEmpty() || !isFinal) {
            System.exit(1);
        }
        System.out.println("the face is the document's");
    }

    private static Set<String> openMembers() {
        Set<String> members = new TreeSet<>();
        for (Field field : SnapshotTrie.class.getDeclaredFields()) {
            addIfOpen(members, field.getModifiers(), field.toString());
        }
        for (Constructor<?> constructor : SnapshotTrie.class.getDeclaredConstructors()) {
            addIfOpen(members, constructor.getModifiers(), constructor.toString());
        }
        for (Method method : SnapshotTrie.class.getDeclaredMethods()) {
            addIfOpen(members, method.getModifiers(), method.toString());
        }
        return members;
    }

    private static void addIfOpen(Set<String> members, int modifiers, String text) {
        if (!Modifier.isPrivate(modifiers)) {
            members.add(text);
        }
    }
}
