import java.lang.reflect.Constructor;
import java.lang.reflect.Field;
import java.lang.reflect.Method;
import java.lang.reflect.Modifier;
import java.util.Arrays;
import java.util.TreeSet;
import java.util.stream.Collectors;

/** The public face is that of the document, and nothing else can be seen from outside. */
public final class FaceTest {
    private static final String[] FACE = {
        "int clear()",
        "int profile(int,int,int) IllegalArgumentException",
        "int costs(int,int,int) IllegalArgumentException",
        "int slice() IllegalStateException",
        "int note(int,int,int) IllegalArgumentException IllegalStateException",
        "int drop() IllegalStateException",
        "int fit(int,int) IllegalArgumentException",
        "int cost(int,int) IllegalArgumentException",
        "int turn(int,int) IllegalArgumentException",
        "int least()",
        "int key(int) IllegalArgumentException",
        "long count()",
        "int pick(long,int) IllegalArgumentException",
        "int through(int,int) IllegalArgumentException",
        "int near(int,int) IllegalArgumentException",
        "int sure(int) IllegalArgumentException ArithmeticException",
        "int change(int) IllegalArgumentException",
        "boolean pivot(int,int,int) IllegalArgumentException",
        "int whole(int,int) IllegalArgumentException",
        "int of(int) IllegalArgumentException",
    };

    private static String names(Class<?>[] types, String between) {
        return Arrays.stream(types).map(Class::getSimpleName).collect(Collectors.joining(between));
    }

    private static String told(Method method) {
        String text = method.getReturnType().getSimpleName() + " " + method.getName()
            + "(" + names(method.getParameterTypes(), ",") + ")";
        return (text + " " + names(method.getExceptionTypes(), " ")).trim();
    }

    public static void main(String[] args) throws Exception {
        Check check = new Check();
        check.same("the class is public", true, Modifier.isPublic(KeyWalks.class.getModifiers()));
        check.same("the class is final", true, Modifier.isFinal(KeyWalks.class.getModifiers()));
        TreeSet<String> seen = new TreeSet<>();
        TreeSet<String> hidden = new TreeSet<>();
        TreeSet<String> seenNames = new TreeSet<>();
        for (Method method : KeyWalks.class.getDeclaredMethods()) {
            if (Modifier.isPrivate(method.getModifiers())) {
                hidden.add(method.getName());
            } else {
                check.same(method.getName() + " is public", true, Modifier.isPublic(method.getModifiers()));
                check.same(method.getName() + " is static", false, Modifier.isStatic(method.getModifiers()));
                seen.add(told(method));
                seenNames.add(method.getName());
            }
        }
        check.same("the methods", new TreeSet<>(Arrays.asList(FACE)), seen);
        hidden.retainAll(seenNames);
        check.same("private methods with a public one's name", new TreeSet<String>(), hidden);
        Constructor<?>[] constructors = KeyWalks.class.getDeclaredConstructors();
        check.same("constructors", 1, constructors.length);
        check.same("the constructor is public", true, Modifier.isPublic(constructors[0].getModifiers()));
        check.same("the constructor takes nothing", 0, constructors[0].getParameterCount());
        for (Field field : KeyWalks.class.getDeclaredFields()) {
            boolean isPrivate = Modifier.isPrivate(field.getModifiers());
            check.same(field.getName() + " is private", !field.getName().equals("NONE"), isPrivate);
            if (Modifier.isStatic(field.getModifiers())) {
                check.same(field.getName() + " is final", true, Modifier.isFinal(field.getModifiers()));
            }
        }
        Field none = KeyWalks.class.getField("NONE");
        check.same("NONE is an int", int.class, none.getType());
        check.same("NONE is public static final", "public static final", Modifier.toString(none.getModifiers()));
        check.same("NONE", -1, KeyWalks.NONE);
        check.end();
    }
}
