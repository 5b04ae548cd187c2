import java.lang.reflect.Constructor;
import java.lang.reflect.Field;
import java.lang.reflect.Method;
import java.lang.reflect.Modifier;
import java.util.TreeSet;

/** The public face: just what the document shows, and nothing that is visible beside it. */
public final class FaceTest {
    public static void main(String[] args) {
        Check check = new Check();
        String thrown = " throws java.lang.IllegalArgumentException,java.lang.ArithmeticException,"
            + "java.lang.IllegalStateException,java.lang.UnsupportedOperationException";
        TreeSet<String> due = new TreeSet<>();
        due.add("public static final int BitArithmetic.NONE");
        due.add("public BitArithmetic()");
        due.add("public long BitArithmetic.run(int,long,long)" + thrown);
        due.add("public long BitArithmetic.next(int,long)" + thrown);
        due.add("public long BitArithmetic.into(int,long)" + thrown);
        due.add("public long BitArithmetic.latest()");
        due.add("public int BitArithmetic.kind(int,int)");
        TreeSet<String> seen = new TreeSet<>();
        for (Field field : BitArithmetic.class.getDeclaredFields()) {
            if (!Modifier.isPrivate(field.getModifiers())) {
                seen.add(field.toGenericString());
            }
        }
        for (Constructor<?> constructor : BitArithmetic.class.getDeclaredConstructors()) {
            if (!Modifier.isPrivate(constructor.getModifiers())) {
                seen.add(constructor.toGenericString());
            }
        }
        for (Method method : BitArithmetic.class.getDeclaredMethods()) {
            if (!Modifier.isPrivate(method.getModifiers())) {
                seen.add(method.toGenericString());
            }
        }
        check.same("the face", seen.toString(), due.toString());
        check.same("the class", Modifier.toString(BitArithmetic.class.getModifiers()), "public final");
        check.end();
    }
}
