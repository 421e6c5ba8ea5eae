import java.lang.reflect.Constructor;
import java.lang.reflect.Field;
import java.lang.reflect.Method;
import java.lang.reflect.Modifier;
import java.util.Arrays;
import java.util.Set;
import java.util.TreeSet;

/** The public face of the document, and nothing else that can be seen (LANGUAGE.md, rules 1 and 5). */
public final class FaceTest {
    private static final String THROWS = " IllegalArgumentException IllegalStateException";
    private static final String[] METHODS = {
        "boolean place 3", "boolean thing 5", "boolean task 5", "boolean order 5", "boolean life 3",
        "int flight 4" + THROWS, "int put 4" + THROWS, "int take 2" + THROWS, "int done 3" + THROWS,
        "int concede 5" + THROWS, "int rebuild 3" + THROWS, "void strike 1" + THROWS,
        "int count 1", "int where 3", "int at 3", "int counter 3", "int due 4", "int asked 3",
        "int open 3", "int grounded 2", "int forecast 5",
    };

    private static final Check check = new Check();

    public static void main(String[] args) {
        check.promise("the public face");
        Class<?> face = HangarBook.class;
        check.yes("public and final", Modifier.isPublic(face.getModifiers()) && Modifier.isFinal(face.getModifiers()));
        methods(face);
        fields(face);
        for (Constructor<?> made : face.getDeclaredConstructors()) {
            check.yes("the constructor", Modifier.isPublic(made.getModifiers()) && made.getParameterCount() == 0);
        }
        for (Class<?> inside : face.getDeclaredClasses()) {
            int seen = inside.getModifiers();
            check.yes("the class " + inside.getSimpleName(),
                    Modifier.isStatic(seen) && !Modifier.isPublic(seen) && !Modifier.isProtected(seen));
        }
        check.end();
    }

    private static void methods(Class<?> face) {
        Set<String> seen = new TreeSet<>();
        Set<String> publicNames = new TreeSet<>();
        for (Method method : face.getDeclaredMethods()) {
            if (Modifier.isPublic(method.getModifiers())) {
                seen.add(told(method));
                publicNames.add(method.getName());
            }
        }
        check.sameText("the methods", seen.toString(), new TreeSet<>(Arrays.asList(METHODS)).toString());
        for (Method method : face.getDeclaredMethods()) {
            if (!Modifier.isPublic(method.getModifiers())) {
                check.yes(method.getName() + " is private", Modifier.isPrivate(method.getModifiers()));
                check.no(method.getName() + " is a public one's name", publicNames.contains(method.getName()));
            }
        }
    }

    private static String told(Method method) {
        StringBuilder text = new StringBuilder();
        text.append(method.getReturnType()).append(' ').append(method.getName()).append(' ');
        text.append(method.getParameterCount());
        for (Class<?> type : method.getParameterTypes()) {
            check.yes(method.getName() + " takes an int", type == int.class);
        }
        for (Class<?> thrown : method.getExceptionTypes()) {
            text.append(' ').append(thrown.getSimpleName());
        }
        return text.toString();
    }

    private static void fields(Class<?> face) {
        for (Field field : face.getDeclaredFields()) {
            int seen = field.getModifiers();
            boolean isNone = field.getName().equals("NONE");
            check.yes(field.getName() + " is seen as it should be",
                    isNone ? Modifier.isPublic(seen) && Modifier.isStatic(seen) : Modifier.isPrivate(seen));
            check.yes(field.getName() + " is final, if it is static",
                    !Modifier.isStatic(seen) || Modifier.isFinal(seen));
        }
    }
}
