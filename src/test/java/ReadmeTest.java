import java.io.IOException;
import java.net.URL;
import java.net.URLClassLoader;
import java.nio.file.Files;
import java.nio.file.Path;
import java.util.ArrayList;
import java.util.List;
import java.util.regex.Matcher;
import java.util.regex.Pattern;
import javax.tools.ToolProvider;

/** The examples of README.md, made a class, compiled and run; run from the project's folder. */
public final class ReadmeTest {
    private static final Pattern BLOCK = Pattern.compile("(?s)```(java|text)\n(.*?)```");
    private static final Pattern ANSWERED = Pattern.compile("(?m)^(store\\..*?);\\s*// (-?\\d+)\\b.*$");

    private static final Check check = new Check();

    public static void main(String[] args) throws Exception {
        List<String> texts = new ArrayList<>();
        StringBuilder members = new StringBuilder();
        StringBuilder steps = new StringBuilder();
        Matcher blocks = BLOCK.matcher(Files.readString(Path.of("README.md")));
        while (blocks.find()) {
            String block = blocks.group(2);
            if (blocks.group(1).equals("text")) {
                texts.add(block);
            } else {
                (block.startsWith("static") ? members.append("public ") : steps).append(block);
            }
        }
        Class<?> example = compiled(source(members.toString(), steps.toString()));
        answers(example, steps.toString());
        texts(example, texts);
        check.end("ReadmeTest");
    }

    private static String source(String members, String steps) {
        return "public final class Example {\npublic static void steps(java.util.List<Long> answers) {\n"
                + ANSWERED.matcher(steps).replaceAll("answers.add((long) $1);") + "}\n" + members + "}\n";
    }

    private static void answers(Class<?> example, String steps) throws ReflectiveOperationException {
        List<Long> answers = new ArrayList<>();
        example.getMethod("steps", List.class).invoke(null, answers);
        Matcher rows = ANSWERED.matcher(steps);
        for (long answer : answers) {
            check.due("a row of README's", rows.find() ? 1 : 0, 1);
            check.due("README's " + rows.group(1), answer, Long.parseLong(rows.group(2)));
        }
        check.due("README has rows", answers.isEmpty() ? 0 : 1, 1);
    }

    private static void texts(Class<?> example, List<String> texts) throws ReflectiveOperationException {
        check.due("README's texts", texts.size(), 1);
        for (String text : texts) {
            AlikeStore store = new AlikeStore();
            Object codes = example.getMethod("load", AlikeStore.class, String.class).invoke(null, store, text);
            check.fine("README's text", store, (Integer) codes, 2);
            check.due("of which count", store.many(4), 3);
        }
    }

    private static Class<?> compiled(String source) throws IOException, ClassNotFoundException {
        Path folder = Files.createTempDirectory("readme");
        Path file = folder.resolve("Example.java");
        Files.writeString(file, source);
        int failed = ToolProvider.getSystemJavaCompiler().run(null, null, null, "-nowarn", "-cp",
                System.getProperty("java.class.path"), "-d", folder.toString(), file.toString());
        if (failed != 0) {
            System.out.println("README's examples don't compile");
            System.exit(1);
        }
        try (URLClassLoader loader = new URLClassLoader(new URL[] {folder.toUri().toURL()})) {
            return loader.loadClass("Example");
        } finally {
            Files.delete(file);
            Files.delete(folder.resolve("Example.class"));
            Files.delete(folder);
        }
    }
}
