import java.lang.reflect.Constructor;
import java.lang.reflect.Field;
import java.lang.reflect.Method;
import java.lang.reflect.Modifier;
import java.util.Set;
import java.util.TreeSet;

/** The public face: just the members that the document writes, and none besides. */
public final class FaceTest {
    public static void main(String[] args) {
        Check check = new Check("FaceTest");
        Class<?> face = DecimalDesk.class;
        check.due("modifiers", face.getModifiers(), Modifier.PUBLIC | Modifier.FINAL);
        check.due("NONE", DecimalDesk.NONE, -1);
        Set<String> seen = new TreeSet<>();
        for (Field member : face.getDeclaredFields()) {
            if (!Modifier.isPrivate(member.getModifiers())) {
                seen.add(member.toString());
            }
        }
        for (Method member : face.getDeclaredMethods()) {
            if (!Modifier.isPrivate(member.getModifiers())) {
                seen.add(member.toString());
            }
        }
        for (Constructor<?> member : face.getDeclaredConstructors()) {
            seen.add(member.toString());
        }
        Set<String> want = new TreeSet<>(Set.of(
                "public static final int DecimalDesk.NONE",
                "public DecimalDesk()",
                "public boolean DecimalDesk.format(int,int)",
                "public boolean DecimalDesk.mode(int)",
                "public boolean DecimalDesk.type(long,int)",
                "public long DecimalDesk.read() throws java.lang.IllegalArgumentException",
                "public int DecimalDesk.flags()",
                "public int DecimalDesk.clear(int)",
                "public int DecimalDesk.shortest(long) throws java.lang.IllegalArgumentException",
                "public int DecimalDesk.exact(long) throws java.lang.IllegalArgumentException",
                "public int DecimalDesk.letter(int) throws java.util.NoSuchElementException",
                "public long DecimalDesk.next(long,boolean)"));
        check.due("the members", seen, want);
        check.end();
    }
}
