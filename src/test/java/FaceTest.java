import java.lang.reflect.Constructor;
import java.lang.reflect.Field;
import java.lang.reflect.Method;
import java.lang.reflect.Modifier;
import java.util.Set;
import java.util.TreeSet;

/** The face of the class is the document's, and nothing else can be seen of it. */
public final class FaceTest {
    private static final Set<String> FACE = Set.of(
            "public static final int BranchTimes.NONE",
            "public BranchTimes(int)",
            "public int BranchTimes.tick(int)",
            "public boolean BranchTimes.hello(int)",
            "public boolean BranchTimes.report(int)",
            "public boolean BranchTimes.leave(int)",
            "public boolean BranchTimes.join(int,int,int)",
            "public boolean BranchTimes.prune(int,int)",
            "public void BranchTimes.forget()",
            "public int BranchTimes.joined(int,int)",
            "public int BranchTimes.cut(int,int)",
            "public int BranchTimes.members(int)",
            "public int BranchTimes.goes(int)",
            "public int BranchTimes.look(int)");

    public static void main(String[] args) {
        Set<String> seen = new TreeSet<>();
        for (Field field : BranchTimes.class.getDeclaredFields()) {
            keep(seen, field.getModifiers(), field.toGenericString());
        }
        for (Constructor<?> made : BranchTimes.class.getDeclaredConstructors()) {
            keep(seen, made.getModifiers(), made.toGenericString());
        }
        for (Method method : BranchTimes.class.getDeclaredMethods()) {
            keep(seen, method.getModifiers(), method.toGenericString());
        }
        int kind = BranchTimes.class.getModifiers();
        boolean right = seen.equals(FACE) && Modifier.isPublic(kind) && Modifier.isFinal(kind);
        System.out.println(right ? "face: as due" : "face: seen is " + seen + ", due is " + new TreeSet<>(FACE));
        if (!right || BranchTimes.NONE != -1) {
            System.exit(1);
        }
    }

    private static void keep(Set<String> seen, int modifiers, String text) {
        if (!Modifier.isPrivate(modifiers)) {
            seen.add(text);
        }
    }
}
