import java.lang.reflect.Constructor;
import java.lang.reflect.Field;
import java.lang.reflect.Method;
import java.lang.reflect.Modifier;
import java.util.ArrayList;
import java.util.Arrays;
import java.util.List;
import java.util.TreeSet;

/** The public face: just the constants, the constructor and the methods of the document. */
final class FaceTest {
    private static final String I = "IndexOutOfBoundsException";
    private static final String A = "IllegalArgumentException";
    private static final String S = "IllegalStateException";
    private static final String[] METHODS = {
        "int text(int,int) " + A + " " + S,
        "int line(int,int,int) " + I + " " + A + " " + S,
        "int tune(int,int,int) " + A + " " + S,
        "int phrase(int,int,int) " + I + " " + A + " " + S,
        "int fits(int,int) " + I,
        "int clashes(int,int) " + I + " " + S,
        "int best(int) " + I,
        "int alike(int) " + I,
        "int metres()",
        "boolean allowText(int,boolean) " + I,
        "boolean allowTune(int,boolean) " + I,
        "int shift(int,int,int) " + I + " " + A,
        "int easter(int) " + A,
        "int easterAnew(int) " + A,
        "int weekday(int,int,int) " + A,
        "int feast(int,boolean,int,int) " + A + " " + S,
        "int moving(int,boolean,int) " + A + " " + S,
        "int sundays(int) " + A,
        "int reading(int,int,int) " + I + " " + A,
        "int kept(int,int,int) " + A,
        "int when(int,int) " + I + " " + A,
        "int whenAnew(int,int) " + I + " " + A,
        "int theme(int,int,int) " + A,
        "int why(int,int,int,int) " + I + " " + A + " " + S,
        "int sing(int,int,int) " + A + " " + S,
        "int service(int,int) " + I + " " + A,
        "int sung(int) " + I};

    public static void main(String[] args) {
        Class<?> face = Hymnwright.class;
        Checks.due("a public final class", Modifier.PUBLIC | Modifier.FINAL, face.getModifiers());
        Checks.due("NONE", -100, Hymnwright.NONE);
        Checks.due("SUNDAY", -2, Hymnwright.SUNDAY);
        constructors(face);
        methods(face);
        fields(face);
        nested(face);
        Checks.finish();
    }

    private static void constructors(Class<?> face) {
        Constructor<?>[] all = face.getDeclaredConstructors();
        Checks.due("one constructor", 1, all.length);
        Checks.due("without parameters", 0, all[0].getParameterCount());
        Checks.due("a public one", true, Modifier.isPublic(all[0].getModifiers()));
    }

    private static void methods(Class<?> face) {
        TreeSet<String> want = new TreeSet<>(Arrays.asList(METHODS));
        TreeSet<String> got = new TreeSet<>();
        TreeSet<String> publicNames = new TreeSet<>();
        List<Method> hidden = new ArrayList<>();
        for (Method method : face.getDeclaredMethods()) {
            if (Modifier.isPrivate(method.getModifiers())) {
                hidden.add(method);
            } else {
                got.add(signature(method));
                publicNames.add(method.getName());
                Checks.due(method.getName() + " is public alone", Modifier.PUBLIC, method.getModifiers());
            }
        }
        for (Class<?> inside : face.getDeclaredClasses()) {
            hidden.addAll(Arrays.asList(inside.getDeclaredMethods()));
        }
        for (String method : want) {
            Checks.due("has " + method, true, got.contains(method));
        }
        Checks.due("how many methods", want.size(), got.size());
        for (Method method : hidden) {
            Checks.due("a public name is hidden: " + method, false, publicNames.contains(method.getName()));
            Checks.due("at most seven parameters: " + method, true, method.getParameterCount() <= 7);
        }
    }

    private static String signature(Method method) {
        StringBuilder text = new StringBuilder();
        text.append(method.getReturnType().getName()).append(' ').append(method.getName()).append('(');
        for (Class<?> type : method.getParameterTypes()) {
            text.append(text.charAt(text.length() - 1) == '(' ? "" : ",").append(type.getName());
        }
        text.append(')');
        for (Class<?> type : method.getExceptionTypes()) {
            text.append(' ').append(type.getSimpleName());
        }
        return text.toString();
    }

    private static void fields(Class<?> face) {
        int open = 0;
        for (Field field : face.getDeclaredFields()) {
            if (!Modifier.isPrivate(field.getModifiers())) {
                open++;
                Checks.due("a constant: " + field, Modifier.PUBLIC | Modifier.STATIC | Modifier.FINAL,
                        field.getModifiers());
            }
            staticIsFinal(field);
        }
        Checks.due("two constants", 2, open);
    }

    private static void nested(Class<?> face) {
        Class<?>[] inside = face.getDeclaredClasses();
        Checks.due("at most twelve classes", true, inside.length <= 11);
        for (Class<?> one : inside) {
            Checks.due(one + " is static", true, Modifier.isStatic(one.getModifiers()));
            Checks.due(one + " is not public", false, Modifier.isPublic(one.getModifiers()));
            for (Field field : one.getDeclaredFields()) {
                staticIsFinal(field);
            }
        }
    }

    private static void staticIsFinal(Field field) {
        boolean isStatic = Modifier.isStatic(field.getModifiers());
        Checks.due("final: " + field, true, !isStatic || Modifier.isFinal(field.getModifiers()));
    }
}
