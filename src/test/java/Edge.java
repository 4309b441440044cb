import java.io.IOException;
import java.nio.charset.StandardCharsets;
import java.nio.file.Files;
import java.nio.file.Path;
import java.util.HashSet;
import java.util.LinkedHashMap;
import java.util.Map;
import java.util.Set;

/** Tests of one sentence of the document each: a test names where the sentence stands and quotes it. */
final class Edge {
    static final String TERMS = "Terms";

    private static final Map<String, String> SECTIONS = new LinkedHashMap<>();
    private static final Set<String> TESTED = new HashSet<>();
    private static int tests = 0;

    private Edge() {
    }

    /** args[0] is the project's folder; the document stands beside it. */
    static void begin(String[] args) throws IOException {
        Path doc = Path.of(args.length > 0 ? args[0] : ".", "..", "shared", "DOC.md");
        if (!Files.exists(doc)) {
            System.out.println("there is no " + doc + ": the quotations are not looked up");
            return;
        }
        for (String section : Files.readString(doc, StandardCharsets.UTF_8).split("\n## ")) {
            int end = section.indexOf('\n');
            SECTIONS.put(section.substring(0, end).replaceAll(":.*", ""), plain(section.substring(end)));
        }
    }

    private static String plain(String text) {
        return text.replaceAll("\\s+", " ");
    }

    static void of(int promise, String sentence, Runnable test) {
        of("Promise " + promise, sentence, test);
    }

    static void of(String where, String sentence, Runnable test) {
        Due.setAbout(where + ", \"" + sentence + "\": ");
        if (!SECTIONS.isEmpty()) {
            Due.is("the sentence stands in the document", SECTIONS.getOrDefault(where, "").contains(plain(sentence)), true);
        }
        int before = Due.asked();
        test.run();
        Due.is("the test asks something", Due.asked() > before, true);
        Due.setAbout("");
        TESTED.add(where);
        tests++;
    }

    static void allPromisesAreTested() {
        for (int promise = 1; promise <= 34; promise++) {
            Due.is("there is a test of promise " + promise, TESTED.contains("Promise " + promise), true);
        }
    }

    static void end() {
        System.out.println(tests + " sentences were tested");
        Due.end();
    }
}
