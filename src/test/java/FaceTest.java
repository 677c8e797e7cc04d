import java.lang.reflect.Constructor;
import java.lang.reflect.Field;
import java.lang.reflect.Method;
import java.lang.reflect.Modifier;
import java.util.Set;
import java.util.TreeSet;

/** The face of the class is the document's and nothing more. */
public final class FaceTest {
    private FaceTest() {
    }

    public static void main(String[] args) {
        Set<String> want = new TreeSet<>(Set.of(
            "public static final int IntervalSplits.NONE",
            "public IntervalSplits(int,int,int,int)",
            "public int IntervalSplits.put(long,int)",
            "public int IntervalSplits.find(long)",
            "public int IntervalSplits.next(long)",
            "public int IntervalSplits.remove(long)",
            "public int IntervalSplits.interval(int,int)",
            "public int IntervalSplits.cut(int)",
            "public int IntervalSplits.open()",
            "public int IntervalSplits.split(int)",
            "public int IntervalSplits.index(int,int) throws java.lang.ArrayIndexOutOfBoundsException",
            "public int IntervalSplits.verify()",
            "public int IntervalSplits.reorganise()",
            "public long IntervalSplits.order(int)",
            "public int IntervalSplits.count(int)"));
        Set<String> got = new TreeSet<>();
        Set<String> publicNames = new TreeSet<>();
        Set<String> privateNames = new TreeSet<>();
        for (Field field : IntervalSplits.class.getDeclaredFields()) {
            if (!Modifier.isPrivate(field.getModifiers())) {
                got.add(field.toString());
            }
        }
        for (Constructor<?> constructor : IntervalSplits.class.getDeclaredConstructors()) {
            got.add(constructor.toString());
        }
        for (Method method : IntervalSplits.class.getDeclaredMethods()) {
            if (Modifier.isPrivate(method.getModifiers())) {
                privateNames.add(method.getName());
            } else {
                got.add(method.toString());
                publicNames.add(method.getName());
            }
        }
        privateNames.retainAll(publicNames);
        Check.due("members that are the document's: " + got, 1, got.equals(want) ? 1 : 0);
        Check.due("private methods named as public ones: " + privateNames, 0, privateNames.size());
        int modifiers = IntervalSplits.class.getModifiers();
        Check.due("public class", 1, Modifier.isPublic(modifiers) ? 1 : 0);
        Check.due("final class", 1, Modifier.isFinal(modifiers) ? 1 : 0);
        Check.due("NONE", -1, IntervalSplits.NONE);
        Check.end();
    }
}
