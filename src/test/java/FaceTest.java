import java.lang.reflect.Constructor;
import java.lang.reflect.Field;
import java.lang.reflect.Method;
import java.lang.reflect.Modifier;
import java.util.Set;
import java.util.TreeSet;

/** The class has the document's face, and no other member that can be seen from outside. */
public final class FaceTest {
    private static final Set<String> FACE = Set.of(
        "public PairSorter(int)",
        "public boolean PairSorter.put(int,int)",
        "public int PairSorter.fill(int,int,int,int,int)",
        "public int PairSorter.turn(int,int)",
        "public int PairSorter.run()",
        "public int PairSorter.keyAt(int)",
        "public int PairSorter.tagAt(int)",
        "public int PairSorter.size()",
        "public int PairSorter.stackHigh()",
        "public long PairSorter.work(int,int)",
        "public int PairSorter.sorted(int)",
        "public void PairSorter.clear()");

    public static void main(String[] args) {
        Set<String> seen = new TreeSet<>();
        for (Constructor<?> c : PairSorter.class.getDeclaredConstructors()) {
            addIfSeen(seen, c.getModifiers(), c.toString());
        }
        for (Method m : PairSorter.class.getDeclaredMethods()) {
            addIfSeen(seen, m.getModifiers(), m.toString());
        }
        for (Field f : PairSorter.class.getDeclaredFields()) {
            addIfSeen(seen, f.getModifiers(), f.toString());
        }
        int modifiers = PairSorter.class.getModifiers();
        boolean right = seen.equals(FACE)
            && Modifier.isPublic(modifiers) && Modifier.isFinal(modifiers);
        System.out.println(right ? "the face is as due" : "the face is not as due: " + seen);
        if (!right) {
            System.exit(1);
        }
    }

    private static void addIfSeen(Set<String> seen, int modifiers, String member) {
        if (!Modifier.isPrivate(modifiers)) {
            seen.add(member);
        }
    }
}
