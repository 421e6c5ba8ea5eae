import java.io.IOException;
import java.lang.reflect.Executable;
import java.lang.reflect.Field;
import java.lang.reflect.Modifier;
import java.nio.file.Files;
import java.nio.file.Path;
import java.util.ArrayList;
import java.util.List;
import java.util.regex.Matcher;
import java.util.regex.Pattern;

/** What can be seen of LANGUAGE.md's rules from the class file and from its text; .ci/run stands in the root. */
public final class LanguageTest {
    private static final Path TEXT = Path.of("src/main/java/HangarBook.java");
    /** Words and signs that rules 2, 3, 4, 6 and 13 leave out. */
    private static final String[] LEFT_OUT = {"->", "::", "finally", "synchronized", "assert", "volatile", "native",
        "double", "float", "System\\.(?!arraycopy)", "Exact\\(", "hashCode", "toString", "getMessage", "Random",
        "Thread", "static \\{", "\\bvar\\b", "\\bpackage\\b"};
    private static final int MOST_LINES = 60;

    private static final Check check = new Check();

    public static void main(String[] args) throws IOException {
        List<Class<?>> classes = new ArrayList<>(List.of(HangarBook.class.getDeclaredClasses()));
        classes.add(HangarBook.class);
        String text = Files.readString(TEXT).replaceAll("\"[^\"]*\"|//[^\n]*|(?s:/\\*.*?\\*/)", " ");
        words(text);
        imports(text);
        thrown(text);
        lengths(text);
        check.promise("rule 11");
        check.yes("at most twelve classes", classes.size() <= 12);
        for (Class<?> each : classes) {
            fields(each);
            parameters(each);
        }
        check.end();
    }

    private static void words(String text) {
        check.promise("rules 2, 3, 4, 6 and 13");
        for (String word : LEFT_OUT) {
            check.no("the text has " + word, Pattern.compile(word).matcher(text).find());
        }
    }

    private static void imports(String text) {
        check.promise("rule 4");
        Matcher imported = Pattern.compile("import ([^;]*);").matcher(text);
        while (imported.find()) {
            check.yes(imported.group(), imported.group(1).matches("java\\.util\\.(Arrays|List|ArrayList|Iterator)"));
        }
    }

    private static void thrown(String text) {
        check.promise("rule 6");
        Matcher thrown = Pattern.compile("\\bthrow ([^;]*);").matcher(text);
        while (thrown.find()) {
            check.yes(thrown.group(), thrown.group(1).matches("new Illegal(State|Argument)Exception\\( *\\)"));
        }
        check.no("a try", Pattern.compile("\\btry\\b").matcher(text).find());
    }

    /** A method begins with a line that ends in a brace and ends with a brace as far in. */
    private static void lengths(String text) {
        check.promise("rule 11");
        Matcher method = Pattern.compile("(?m)^((?: {4}){1,2})[^ \n][^;={}]*\\([^;{}]*\\{\n(?s:(.*?))^\\1\\}").matcher(text);
        int seen = 0;
        while (method.find()) {
            seen++;
            check.yes("some sixty lines: " + method.group(0).lines().findFirst().orElse(""),
                    method.group(2).lines().count() <= MOST_LINES);
        }
        check.yes("there are methods", seen > 21);
    }

    private static void fields(Class<?> each) {
        int own = 0;
        for (Field field : each.getDeclaredFields()) {
            if (Modifier.isStatic(field.getModifiers())) {
                check.promise("rule 5");
                check.yes(field.getName() + " is final", Modifier.isFinal(field.getModifiers()));
                check.yes(field.getName() + " is a number", field.getType().isPrimitive());
            } else {
                own++;
            }
        }
        check.promise("rule 11");
        check.yes("some twenty fields in " + each.getSimpleName(), own <= 20);
    }

    private static void parameters(Class<?> each) {
        check.promise("rule 11");
        List<Executable> all = new ArrayList<>(List.of(each.getDeclaredMethods()));
        all.addAll(List.of(each.getDeclaredConstructors()));
        for (Executable one : all) {
            check.yes("at most seven parameters of " + one.getName(), one.getParameterCount() <= 7);
        }
    }
}
