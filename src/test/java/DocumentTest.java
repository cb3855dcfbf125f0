import java.io.IOException;
import java.lang.reflect.Method;
import java.nio.file.Files;
import java.nio.file.Path;
import java.util.HashSet;
import java.util.Map;
import java.util.Set;
import java.util.TreeMap;
import java.util.regex.Matcher;
import java.util.regex.Pattern;

/**
 * Whether the boundary tests are of the document: each quotes a sentence that stands in it, at its own promise or in
 * the terms, and no sentence that names a boundary case is left without a test.
 */
public final class DocumentTest {

    private static final Class<?>[] OWNERS = {SetBoundaryTest.class, TaskBoundaryTest.class, TickBoundaryTest.class,
        ProgramBoundaryTest.class, AskedBoundaryTest.class, ForeseenBoundaryTest.class, RefusedBoundaryTest.class};

    private static final String NOTHING = "A method that throws an exception changes nothing.";
    private static final String FIRST = "If several exceptions apply, the one that is named first is thrown.";

    /** The words by which the document names a boundary case. */
    private static final Pattern BOUNDARY = Pattern.compile("\\bThrows\\b|\\bReturns\\b|\\d to \\d|\\bat most\\b"
            + "|\\bnot (above|below)\\b|\\bor more\\b|\\bat first\\b|\\bif (there|any|nobody|it holds|its number|one is)\\b"
            + "|\\bfor none\\b|\\b[Ww]ithout\\b|\\botherwise\\b|\\bmultiple\\b|\\bnever\\b|\\bused up\\b|\\bas long as\\b"
            + "|\\bonce\\b|\\bcut\\b|\\bor 0\\b|\\bwraps\\b|-[12]\\b|\\bexception\\b|\\bexceptions\\b|\\blast (STEP|ROUND)\\b"
            + "|\\bis less\\b|\\bin one tick\\b|\\bnobody\\b|\\bleast\\b|\\bsmallest\\b|\\bahead of\\b");

    private final Checks checks = new Checks("DocumentTest");
    // By its name: the text of each section, and which of its characters a test quotes.
    private final Map<String, String> texts = new TreeMap<>();
    private final Map<String, boolean[]> quoted = new TreeMap<>();
    // Each quoted sentence with its promise in front.
    private final Set<String> sentences = new HashSet<>();

    public static void main(String[] args) throws IOException {
        DocumentTest test = new DocumentTest();
        test.read(Files.readString(Path.of("../shared/DOC.md")));
        for (Class<?> owner : OWNERS) {
            for (Method method : BoundaryTests.testsOf(owner)) {
                test.quote(method);
            }
        }
        test.boundaries();
        test.exceptions();
        test.checks.close();
    }

    private void read(String document) {
        for (String section : document.split("(?m)^## ")) {
            String name = section.lines().findFirst().orElse("").replaceAll(":.*", "").trim();
            String text = section.substring(section.indexOf('\n') + 1).replaceAll("\\s+", " ");
            texts.put(name, text);
            quoted.put(name, new boolean[text.length()]);
        }
        for (int promise = 1; promise <= 39; promise++) {
            checks.isTrue("no section of the promise " + promise, texts.containsKey("Promise " + promise));
        }
    }

    private void quote(Method method) {
        String name = method.getName();
        checks.isTrue(name + " is not named by its promise", name.matches("promise[0-3]\\d_\\w+"));
        String promise = "Promise " + Integer.parseInt(name.substring(7, 9));
        for (String sentence : method.getAnnotation(Says.class).value()) {
            boolean found = false;
            sentences.add(promise + ": " + sentence);
            for (String section : new String[] {promise, "Terms", "What it is"}) {
                found = found || mark(section, sentence);
            }
            checks.isTrue(name + " quotes what is not there: " + sentence, found);
        }
    }

    private boolean mark(String section, String sentence) {
        int at = texts.get(section).indexOf(sentence);
        for (int i = at; at >= 0 && i < at + sentence.length(); i++) {
            quoted.get(section)[i] = true;
        }
        return at >= 0;
    }

    private void boundaries() {
        for (Map.Entry<String, String> section : texts.entrySet()) {
            String name = section.getKey();
            if (!name.startsWith("Promise ") && !name.equals("Terms") && !name.equals("What it is")) {
                continue;
            }
            String text = section.getValue();
            Matcher matcher = BOUNDARY.matcher(text);
            while (matcher.find()) {
                String around = text.substring(Math.max(0, matcher.start() - 40),
                        Math.min(text.length(), matcher.end() + 60));
                checks.isTrue(name + ": no test is of .." + around + "..", quoted.get(name)[matcher.start()]);
            }
        }
    }

    /** Several exceptions can apply only where one of them is of an argument: without a task there is no state. */
    private void exceptions() {
        for (int i = 1; i <= 39; i++) {
            String promise = "Promise " + i;
            String text = texts.get(promise);
            int throwing = text.split("Throws `", -1).length - 1;
            if (throwing > 0) {
                checks.isTrue(promise + ": no test refuses", sentences.contains(promise + ": " + NOTHING));
            }
            if (throwing > 1 && text.contains("Throws `IllegalArgumentException`")) {
                checks.isTrue(promise + ": no test of the order", sentences.contains(promise + ": " + FIRST));
            }
        }
    }
}
