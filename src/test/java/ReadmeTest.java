import java.io.File;
import java.io.IOException;
import java.lang.reflect.Method;
import java.lang.reflect.Modifier;
import java.net.URL;
import java.net.URLClassLoader;
import java.nio.file.Files;
import java.nio.file.Path;
import java.util.ArrayList;
import java.util.List;
import java.util.regex.Matcher;
import java.util.regex.Pattern;
import javax.tools.ToolProvider;

/** What README.md says of the class: its calls answer so, and none is left out; args[0] is the project's folder. */
public final class ReadmeTest {
    private static final Pattern CALL = Pattern.compile("(war\\..*\\));\\s*// (\\w+|-\\d+)\\b.*");

    public static void main(String[] args) throws Exception {
        String text = Files.readString(Path.of(args.length > 0 ? args[0] : ".", "README.md"));
        everyCallIsNamed(text);
        answers(blocks(text));
        Due.end();
    }

    private static void everyCallIsNamed(String text) {
        for (Method method : WordWar.class.getDeclaredMethods()) {
            if (Modifier.isPublic(method.getModifiers())) {
                Due.is("README.md names " + method.getName(), text.contains("`" + method.getName() + "`"), true);
            }
        }
    }

    /** The text between each ```java and the ``` behind it. */
    private static List<String> blocks(String text) {
        List<String> blocks = new ArrayList<>();
        Matcher block = Pattern.compile("```java\n(.*?)```", Pattern.DOTALL).matcher(text);
        while (block.find()) {
            blocks.add(block.group(1));
        }
        return blocks;
    }

    /** The first block is a function, the second one calls: they are compiled as they stand, each answer is written down. */
    private static void answers(List<String> blocks) throws Exception {
        Due.is("blocks of Java in README.md", blocks.size(), 2);
        List<String> calls = new ArrayList<>();
        List<Long> due = new ArrayList<>();
        StringBuilder body = new StringBuilder();
        for (String line : blocks.get(1).split("\n")) {
            Matcher call = CALL.matcher(line);
            if (call.matches()) {
                calls.add(call.group(1));
                due.add(number(call.group(2)));
                body.append("note(").append(call.group(1)).append(");\n");
            } else {
                Due.is("a call without an answer: " + line, line.startsWith("war."), false);
                body.append(line).append('\n');
            }
        }
        List<?> got = run("public final class Page {\n"
                + "static final java.util.List<Long> NOTED = new java.util.ArrayList<>();\n"
                + "static void note(long answer) { NOTED.add(answer); }\n"
                + "static void note(boolean answer) { NOTED.add(answer ? 1L : 0L); }\n"
                + blocks.get(0) + "public static java.util.List<Long> answers() {\n" + body + "return NOTED;\n}\n}\n");
        Due.is("answers", got.size(), calls.size());
        for (int i = 0; i < got.size(); i++) {
            Due.is("README.md: " + calls.get(i), (Long) got.get(i), due.get(i));
        }
    }

    private static long number(String answer) {
        switch (answer) {
            case "true":
                return 1;
            case "false":
                return 0;
            case "NONE":
                return WordWar.NONE;
            default:
                return Long.parseLong(answer);
        }
    }

    private static List<?> run(String source) throws Exception {
        File folder = Files.createTempDirectory("readme").toFile();
        try {
            File file = new File(folder, "Page.java");
            Files.writeString(file.toPath(), source);
            int failed = ToolProvider.getSystemJavaCompiler().run(null, null, null,
                    "-cp", System.getProperty("java.class.path"), "-d", folder.getPath(), file.getPath());
            Due.is("README.md compiles", failed, 0);
            try (URLClassLoader loader = new URLClassLoader(new URL[] {folder.toURI().toURL()})) {
                return (List<?>) loader.loadClass("Page").getMethod("answers").invoke(null);
            }
        } finally {
            remove(folder);
        }
    }

    private static void remove(File folder) throws IOException {
        File[] files = folder.listFiles();
        for (File file : files == null ? new File[0] : files) {
            Files.delete(file.toPath());
        }
        Files.delete(folder.toPath());
    }
}
