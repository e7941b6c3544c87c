import java.lang.reflect.Constructor;
import java.lang.reflect.Field;
import java.lang.reflect.Method;
import java.lang.reflect.Modifier;
import java.util.ArrayList;
import java.util.List;
import java.util.TreeSet;

/** The public face is the document's and nothing else of the class is seen. */
public final class FaceTest {
    private static final List<String> DUE = List.of(
            "public boolean ArithmeticForms.error(int)",
            "public int ArithmeticForms.node(int,int,int)",
            "public int ArithmeticForms.raised()",
            "public int ArithmeticForms.raises(int)",
            "public int ArithmeticForms.receiver(int,int,int)",
            "public int ArithmeticForms.run(int,int,boolean)",
            "public int ArithmeticForms.set(int,long)",
            "public int ArithmeticForms.value(long,int)",
            "public long ArithmeticForms.exact(int,int) throws java.lang.ArithmeticException",
            "public long ArithmeticForms.rest(int)",
            "public long ArithmeticForms.stored(int)");

    private static List<String> seenMethods() {
        TreeSet<String> seen = new TreeSet<>();
        for (Method method : ArithmeticForms.class.getDeclaredMethods()) {
            if (!Modifier.isPrivate(method.getModifiers()) && !method.isSynthetic()) {
                seen.add(method.toString());
            }
        }
        return new ArrayList<>(seen);
    }

    public static void main(String[] args) throws Exception {
        Check check = new Check("the face");
        List<String> seen = seenMethods();
        if (!seen.equals(DUE)) {
            System.out.println("methods: " + seen);
        }
        check.due("the methods are the document's", seen.equals(DUE), true);
        check.due("the class is public and final",
                ArithmeticForms.class.getModifiers() == (Modifier.PUBLIC | Modifier.FINAL), true);
        for (Field field : ArithmeticForms.class.getDeclaredFields()) {
            boolean isNone = field.getName().equals("NONE");
            check.due("field " + field.getName() + " is private", Modifier.isPrivate(field.getModifiers()), !isNone);
            check.due("field " + field.getName() + " is final if static",
                    !Modifier.isStatic(field.getModifiers()) || Modifier.isFinal(field.getModifiers()), true);
        }
        check.due("NONE", ArithmeticForms.NONE, -1);
        check.due("NONE is public", Modifier.isPublic(ArithmeticForms.class.getDeclaredField("NONE").getModifiers()), true);
        Constructor<?>[] constructors = ArithmeticForms.class.getDeclaredConstructors();
        check.due("one constructor", constructors.length, 1);
        check.due("the constructor", constructors[0].toString().equals("public ArithmeticForms(int)"), true);
        for (Class<?> inside : ArithmeticForms.class.getDeclaredClasses()) {
            int modifiers = inside.getModifiers();
            check.due(inside + " is static", Modifier.isStatic(modifiers), true);
            check.due(inside + " is not public", Modifier.isPublic(modifiers) || Modifier.isProtected(modifiers), false);
        }
        check.end();
    }
}
