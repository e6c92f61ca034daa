import java.lang.reflect.Constructor;
import java.lang.reflect.Field;
import java.lang.reflect.Method;
import java.lang.reflect.Modifier;
import java.util.Set;
import java.util.TreeSet;

/** The public face: what the document names, and no other member that is not private. */
public final class FaceTest {
    private static final String INDEX = " throws java.lang.IndexOutOfBoundsException";
    private static final String ARGUMENT = " throws java.lang.IllegalArgumentException";
    private static final String ADDING =
        INDEX + ",java.lang.IllegalArgumentException,java.lang.IllegalStateException";

    private static final Set<String> FACE = Set.of(
        "public HookColours()",
        "public int HookColours.cook(int,int,int,int)" + ADDING,
        "public int HookColours.pour(int,int,int)" + ADDING,
        "public int HookColours.drop(int)" + INDEX,
        "public boolean HookColours.want(int,boolean)" + INDEX,
        "public int HookColours.setHooks(int)" + ARGUMENT,
        "public int HookColours.deed(int,int)" + INDEX,
        "public boolean HookColours.lives(int,int)" + INDEX,
        "public boolean HookColours.clash(int,int)" + INDEX,
        "public int HookColours.pot(int,int)" + INDEX,
        "public int HookColours.count(int)" + INDEX,
        "public int HookColours.hangs(int)" + INDEX,
        "public int HookColours.crowd()",
        "public int HookColours.would(int)" + ARGUMENT,
        "public int HookColours.fewest()",
        "public int HookColours.advise()",
        "public double HookColours.mean()",
        "public long HookColours.digest()");

    public static void main(String[] args) {
        Class<?> face = HookColours.class;
        Due.same("the class is public and final", face.getModifiers(), Modifier.PUBLIC | Modifier.FINAL);
        TreeSet<String> found = new TreeSet<>();
        for (Constructor<?> one : face.getDeclaredConstructors()) {
            found.add(one.toString());
        }
        for (Method one : face.getDeclaredMethods()) {
            if (!Modifier.isPrivate(one.getModifiers())) {
                found.add(one.toString());
            }
        }
        for (Field one : face.getDeclaredFields()) {
            if (!Modifier.isPrivate(one.getModifiers())) {
                found.add(one.toString());
            }
        }
        if (!found.equals(FACE)) {
            Due.tell("the face is " + found + ", due is " + new TreeSet<>(FACE));
        }
        Due.end("FaceTest");
    }
}
