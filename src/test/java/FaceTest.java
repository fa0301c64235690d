import java.lang.reflect.Constructor;
import java.lang.reflect.Field;
import java.lang.reflect.Method;
import java.lang.reflect.Modifier;
import java.util.Set;
import java.util.TreeSet;

/** The class shows the document's face and nothing beside it. */
public final class FaceTest {
    public static void main(String[] args) {
        Set<String> want = new TreeSet<>(Set.of(
                "public static final int BlockWays.NONE",
                "public BlockWays()",
                "public boolean BlockWays.block(int)",
                "public boolean BlockWays.target(int,int)",
                "public boolean BlockWays.drop(int)",
                "public int BlockWays.count(int)",
                "public int BlockWays.lid(int)",
                "public int BlockWays.meeting(int)",
                "public long BlockWays.set(int,int)",
                "public int BlockWays.depth(int)",
                "public int BlockWays.inner(int) throws java.util.NoSuchElementException",
                "public long BlockWays.joins(long)"));
        Set<String> got = new TreeSet<>();
        for (Field field : BlockWays.class.getDeclaredFields()) {
            keep(got, field.getModifiers(), field.toString());
        }
        for (Constructor<?> constructor : BlockWays.class.getDeclaredConstructors()) {
            keep(got, constructor.getModifiers(), constructor.toString());
        }
        for (Method method : BlockWays.class.getDeclaredMethods()) {
            keep(got, method.getModifiers(), method.toString());
        }
        Check check = new Check();
        check.at("face");
        if (!got.equals(want)) {
            System.out.println("the face is " + got + ", due is " + want);
        }
        check.due("the face is the document's", got.equals(want), true);
        check.due("the class is public", Modifier.isPublic(BlockWays.class.getModifiers()), true);
        check.due("the class is final", Modifier.isFinal(BlockWays.class.getModifiers()), true);
        check.due("NONE", BlockWays.NONE, -1L);
        check.end();
    }

    private static void keep(Set<String> members, int modifiers, String text) {
        if (!Modifier.isPrivate(modifiers)) {
            members.add(text);
        }
    }
}
