import java.io.IOException;
import java.lang.reflect.Method;
import java.lang.reflect.Modifier;
import java.net.URL;
import java.net.URLClassLoader;
import java.nio.file.Files;
import java.nio.file.Path;
import java.util.ArrayList;
import java.util.List;
import java.util.Set;
import java.util.TreeSet;
import java.util.regex.Matcher;
import java.util.regex.Pattern;
import java.util.stream.Stream;
import javax.tools.ToolProvider;

/** What README.md says of the class's use is so when it is run; .ci/run stands in the root. */
public final class ReadmeTest {
    private static final Path README = Path.of("README.md");
    private static final Path CLASS = Path.of("src/main/java/HangarBook.java");
    private static final Path TESTS = Path.of("src/test/java");
    private static final String MAKING = "HangarBook book = new HangarBook();";
    private static final Pattern CALL = Pattern.compile("(book\\.(\\w+)\\(.*\\)); +// ([\\w-]+)(?:: .+)?");
    private static final int MOST_CALLS = 512;

    private static final Check check = new Check();

    public static void main(String[] args) throws Exception {
        check.promise("README.md");
        String text = Files.readString(README);
        List<String> lines = linesOf(text);
        check.same("the run begins with a new object", lines.indexOf(MAKING), 0);
        List<Matcher> calls = callsIn(lines.subList(1, lines.size()));
        check.yes("one object is good for them", calls.size() <= MOST_CALLS);
        wholeFace(calls);
        answers(calls);
        namesOfTests(text);
        check.yes(".ci/run can be run", Files.isExecutable(Path.of(".ci/run")));
        check.end();
    }

    private static List<String> linesOf(String text) {
        List<String> lines = new ArrayList<>();
        Matcher block = Pattern.compile("(?ms)^```java\n(.*?)^```$").matcher(text);
        while (block.find()) {
            lines.addAll(block.group(1).lines().toList());
        }
        return lines;
    }

    private static List<Matcher> callsIn(List<String> lines) {
        List<Matcher> calls = new ArrayList<>();
        for (String line : lines) {
            Matcher call = CALL.matcher(line);
            boolean isCall = call.matches();
            check.yes("a call with its answer: " + line, isCall);
            if (isCall) {
                calls.add(call);
            }
        }
        return calls;
    }

    private static void wholeFace(List<Matcher> calls) {
        Set<String> used = new TreeSet<>();
        for (Matcher call : calls) {
            used.add(call.group(2));
        }
        for (Method method : HangarBook.class.getDeclaredMethods()) {
            if (Modifier.isPublic(method.getModifiers())) {
                check.yes("it shows " + method.getName(), used.contains(method.getName()));
            }
        }
    }

    private static void answers(List<Matcher> calls) throws Exception {
        Path folder = Files.createTempDirectory("readme");
        try {
            String[] got = run(calls, folder);
            for (int i = 0; i < calls.size(); i++) {
                String want = calls.get(i).group(3).replace("NONE", "-1");
                check.sameText(calls.get(i).group(1), got[i], want);
            }
        } finally {
            remove(folder);
        }
    }

    /** Compiles the page's calls together with the class, as the page tells it, and runs them. */
    private static String[] run(List<Matcher> calls, Path folder) throws Exception {
        Path example = folder.resolve("Example.java");
        Files.writeString(example, programOf(calls));
        int failed = ToolProvider.getSystemJavaCompiler().run(null, null, null,
                "-d", folder.toString(), CLASS.toString(), example.toString());
        check.same("the page's calls compile", failed, 0);
        // Without a parent but the library's, the class that was just compiled is the one that answers.
        ClassLoader library = ClassLoader.getPlatformClassLoader();
        try (URLClassLoader loader = new URLClassLoader(new URL[] {folder.toUri().toURL()}, library)) {
            return (String[]) loader.loadClass("Example").getMethod("answers").invoke(null);
        }
    }

    private static String programOf(List<Matcher> calls) {
        StringBuilder program = new StringBuilder("public final class Example {\n");
        program.append("public static String[] answers() {\nString[] said = new String[").append(calls.size());
        program.append("];\n").append(MAKING).append('\n');
        for (int i = 0; i < calls.size(); i++) {
            String call = calls.get(i).group(1);
            String said = "said[" + i + "] = ";
            boolean isSilent = calls.get(i).group(2).equals("strike");
            program.append("try { ").append(isSilent ? call + "; " + said + "\"nothing\"" : said + "\"\" + " + call);
            program.append("; } catch (RuntimeException e) { ").append(said).append("e.getClass().getSimpleName(); }\n");
        }
        return program.append("return said;\n}\n}\n").toString();
    }

    private static void namesOfTests(String text) throws IOException {
        Set<String> there = new TreeSet<>();
        try (Stream<Path> files = Files.list(TESTS)) {
            files.map(file -> file.getFileName().toString())
                    .filter(name -> name.endsWith("Test.java"))
                    .forEach(name -> there.add(name.replace(".java", "")));
        }
        Set<String> named = new TreeSet<>();
        Matcher name = Pattern.compile("`(\\w+Test)`").matcher(text);
        while (name.find()) {
            named.add(name.group(1));
        }
        check.sameText("the tests that it names", named.toString(), there.toString());
    }

    private static void remove(Path folder) throws IOException {
        List<Path> files;
        try (Stream<Path> all = Files.walk(folder)) {
            files = all.sorted((a, b) -> b.compareTo(a)).toList();
        }
        for (Path file : files) {
            Files.delete(file);
        }
    }
}
