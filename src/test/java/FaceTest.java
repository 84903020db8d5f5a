import java.lang.reflect.Constructor;
import java.lang.reflect.Field;
import java.lang.reflect.Method;
import java.lang.reflect.Modifier;
import java.util.HashSet;
import java.util.Set;

/** The public face of the document, no member beside it, and LANGUAGE.md's rules 1 and 5 on members. */
final class FaceTest {
    private static final Set<String> FACE = Set.of(
        "public void WideNumbers.set(int,long,long,long,long) throws java.lang.IllegalArgumentException",
        "public long WideNumbers.get(int,int) throws java.lang.IllegalArgumentException",
        "public void WideNumbers.two(int,int,int,int) throws java.lang.IllegalArgumentException",
        "public void WideNumbers.modular(int,int,int,int,boolean) throws java.lang.IllegalArgumentException",
        "public void WideNumbers.turn(int,int,boolean) throws java.lang.IllegalArgumentException",
        "public int WideNumbers.compare(int,int,boolean) throws java.lang.IllegalArgumentException",
        "public int WideNumbers.bytes(int) throws java.lang.IllegalArgumentException");

    public static void main(String[] args) {
        Check check = new Check("the public face");
        check.sentence("the class is public and final", () -> type(check));
        check.sentence("one constructor", () -> constructors(check));
        check.sentence("these methods and no other open one", () -> methods(check));
        check.sentence("no open field, no static state", () -> fields(check));
        check.end();
    }

    private static void type(Check check) {
        int type = WideNumbers.class.getModifiers();
        check.same("the class is public", Modifier.isPublic(type), true);
        check.same("the class is final", Modifier.isFinal(type), true);
    }

    private static void constructors(Check check) {
        Constructor<?>[] all = WideNumbers.class.getDeclaredConstructors();
        check.same("how many constructors", all.length, 1);
        check.same("the constructor", all[0].toGenericString(), "public WideNumbers()");
    }

    private static void methods(Check check) {
        Set<String> open = new HashSet<>();
        Set<String> openNames = new HashSet<>();
        for (Method method : WideNumbers.class.getDeclaredMethods()) {
            if (!Modifier.isPrivate(method.getModifiers())) {
                open.add(method.toGenericString());
                openNames.add(method.getName());
            }
        }
        check.same("the methods that are not private", open, FACE);
        for (Method method : WideNumbers.class.getDeclaredMethods()) {
            boolean hidden = Modifier.isPrivate(method.getModifiers());
            check.same("private " + method.getName() + " bears a public name",
                hidden && openNames.contains(method.getName()), false);
            check.same(method.getName() + " has over seven parameters", method.getParameterCount() > 7, false);
        }
    }

    private static void fields(Check check) {
        for (Field field : WideNumbers.class.getDeclaredFields()) {
            int modifiers = field.getModifiers();
            check.same(field.getName() + " is private", Modifier.isPrivate(modifiers), true);
            check.same(field.getName() + " is static and not final",
                Modifier.isStatic(modifiers) && !Modifier.isFinal(modifiers), false);
        }
    }
}
