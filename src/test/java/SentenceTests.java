import java.io.IOException;
import java.nio.file.Files;
import java.nio.file.Path;
import java.util.ArrayList;
import java.util.LinkedHashSet;
import java.util.List;
import java.util.Map;
import java.util.Set;
import java.util.TreeMap;
import java.util.function.Supplier;

/**
 * Tests of single sentences of the document. Each test quotes its sentence, and every
 * sentence that names a boundary case has to be quoted by a test of its own.
 */
abstract class SentenceTests {
    static final int TERMS = 0;

    /** A call to a warren. */
    interface Act {
        Object on(DrumWarren warren);
    }

    private static final Map<Integer, Set<String>> TESTED = new TreeMap<>();
    private static int promise;

    static void test(int ofPromise, String sentence, Runnable test) {
        promise = ofPromise;
        if (!TESTED.computeIfAbsent(promise, key -> new LinkedHashSet<>()).add(sentence)) {
            Check.wrong(Check.heading(promise) + " has two tests of: " + sentence);
        }
        int before = Check.checksOf(promise);
        try {
            test.run();
        } catch (RuntimeException e) {
            Check.wrong(Check.heading(promise) + ": " + e + " stops the test of: " + sentence);
        }
        if (Check.checksOf(promise) == before) {
            Check.wrong(Check.heading(promise) + ": nothing is checked in the test of: " + sentence);
        }
    }

    static void due(Object want, Check.Call call) {
        Check.due(promise, want, call);
    }

    /** The call throws this exception and leaves the warren as another one that never heard it. */
    static void refused(Class<?> exception, Supplier<DrumWarren> made, Act act) {
        DrumWarren called = made.get();
        DrumWarren spared = made.get();
        due(exception, () -> act.on(called));
        due(Picture.of(spared), () -> Picture.of(called));
    }

    /** What is no index of this many things: the nearest ones and the farthest ones. */
    static int[] outside(int count) {
        return new int[] {-1, count, Integer.MIN_VALUE, Integer.MAX_VALUE};
    }

    /** Every sentence tested has to stand in the document, and every one with a boundary case to be tested. */
    static void compareWith(String document) throws IOException {
        int tested = 0;
        for (String section : Files.readString(Path.of(document)).split("(?m)^## ")) {
            int number = numberOf(section);
            if (number >= 0) {
                tested += compare(number, sentencesOf(section));
            }
        }
        System.out.println(tested + " sentences of the document have a test of their own");
    }

    // -1 for a section that promises nothing.
    private static int numberOf(String section) {
        if (section.startsWith("Terms\n")) {
            return TERMS;
        }
        return section.startsWith("Promise ")
                ? Integer.parseInt(section.substring("Promise ".length(), section.indexOf(':'))) : -1;
    }

    private static List<String> sentencesOf(String section) {
        List<String> sentences = new ArrayList<>();
        String body = section.substring(section.indexOf('\n')).trim();
        for (String paragraph : body.split("\n\\s*\n")) {
            String line = paragraph.replaceAll("\\s+", " ").trim();
            boolean isParameter = line.startsWith("- `");
            boolean isHeading = line.startsWith("Ahead of the calls ");
            if (!isParameter && !isHeading) {
                String withoutSignature = line.replaceFirst("^`[^`]*`: ", "");
                sentences.addAll(List.of(withoutSignature.split("(?<=\\.) (?=[A-Z])")));
            }
        }
        return sentences;
    }

    private static int compare(int number, List<String> sentences) {
        Set<String> tested = TESTED.getOrDefault(number, Set.of());
        for (String sentence : tested) {
            if (!sentences.contains(sentence)) {
                Check.wrong(Check.heading(number) + " does not say: " + sentence);
            }
        }
        for (String sentence : sentences) {
            if (namesABoundary(number, sentence) && !tested.contains(sentence)) {
                Check.wrong(Check.heading(number) + " has no test of: " + sentence);
            }
        }
        return tested.size();
    }

    private static boolean namesABoundary(int number, String sentence) {
        boolean isTitle = !sentence.contains(" ");
        return !isTitle && (number == TERMS || sentence.startsWith("Throws ") || sentence.matches(".*[0-9].*"));
    }
}
