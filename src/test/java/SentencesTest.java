import java.io.IOException;
import java.lang.reflect.Method;
import java.lang.reflect.Modifier;
import java.nio.file.Files;
import java.nio.file.Path;
import java.util.Arrays;
import java.util.HashMap;
import java.util.Map;

/**
 * That no sentence is without a test: each test's sentence stands in the document where the test says,
 * and together they are all the words under "What it is", "Terms" and the promises. (FaceTest and
 * ReadmeTest are on "The public face"; "Not promised" asks for nothing that a test could miss.)
 */
public final class SentencesTest {
    private static final String DOCUMENT = "../shared/DOC.md";

    public static void main(String[] args) throws IOException {
        Path document = Path.of(DOCUMENT);
        if (!Files.exists(document)) {
            // The tests themselves do not need it, and a copy of it here could not show that it changed.
            System.out.println(DOCUMENT + " is not here: what the tests say of it is not looked at");
            return;
        }
        Map<String, String> texts = sections(Files.readString(document));
        Map<String, boolean[]> told = new HashMap<>();
        texts.forEach((heading, text) -> told.put(heading, new boolean[text.length()]));
        for (Class<?> tests : Sentences.TESTS) {
            for (Method m : Sentences.of(tests)) {
                Sentence s = m.getAnnotation(Sentence.class);
                mark(m, s.says(), texts.getOrDefault(s.in(), ""), told.get(s.in()));
            }
            dueAllSaySentences(tests);
        }
        dueAllTold("What it is", texts, told);
        dueAllTold("Terms", texts, told);
        for (int promise = 1; promise <= 15; promise++) {
            dueAllTold("Promise " + promise, texts, told);
        }
        Checks.end();
    }

    /** The text under each heading (the heading up to its colon), on one line, without a call's face. */
    private static Map<String, String> sections(String document) {
        Map<String, String> texts = new HashMap<>();
        for (String section : document.split("(?m)^## ")) {
            int end = section.indexOf('\n');
            String heading = section.substring(0, end).replaceFirst(":.*", "");
            String text = section.substring(end).strip().replaceFirst("^`[^`]*`:", "");
            texts.put(heading, text.strip().replaceAll("\\s+", " "));
        }
        return texts;
    }

    private static void mark(Method m, String words, String text, boolean[] told) {
        int at = text.indexOf(words);
        if (at < 0 || words.isEmpty()) {
            Checks.miss(m + ": its sentence does not stand where it says: " + words);
        }
        while (at >= 0 && !words.isEmpty()) {
            Arrays.fill(told, at, at + words.length(), true);
            at = text.indexOf(words, at + 1);
        }
    }

    private static void dueAllSaySentences(Class<?> tests) {
        for (Method m : tests.getDeclaredMethods()) {
            boolean looksLikeTest = Modifier.isStatic(m.getModifiers()) && m.getParameterCount() == 0
                && m.getReturnType() == void.class;
            if (looksLikeTest && !m.isAnnotationPresent(Sentence.class)) {
                Checks.miss(m + " says no sentence, and so is not run");
            }
        }
    }

    private static void dueAllTold(String heading, Map<String, String> texts, Map<String, boolean[]> told) {
        String text = texts.getOrDefault(heading, "");
        if (text.isEmpty()) {
            Checks.miss(heading + " is not in " + DOCUMENT);
        }
        StringBuilder untold = new StringBuilder();
        for (int i = 0; i < text.length(); i++) {
            if (!told.get(heading)[i]) {
                untold.append(text.charAt(i));
            }
        }
        if (untold.toString().matches(".*[A-Za-z0-9].*")) {
            Checks.miss(heading + ": no test has the words \"" + untold + "\"");
        }
    }
}
