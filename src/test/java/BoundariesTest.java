import java.io.IOException;
import java.lang.reflect.InvocationTargetException;
import java.lang.reflect.Method;
import java.nio.file.Files;
import java.nio.file.Path;
import java.util.Arrays;
import java.util.Comparator;
import java.util.List;
import java.util.Map;
import java.util.TreeMap;
import java.util.regex.Matcher;
import java.util.regex.Pattern;

/**
 * Each sentence of the document that names a boundary case, in a test of its own. A test is named
 * after its promise and tells by Says which words it holds the class to. The words must stand in
 * the document, and the document may have none that no test tells.
 */
public final class BoundariesTest extends Bench {
    private static final List<Class<?>> CASES = List.of(TextsCases.class, FormCases.class,
        PackedCases.class, LettersCases.class, SignsCases.class, AskedCases.class,
        PhraseCases.class, WellCases.class, BackCases.class);
    private static final int PROMISES = 42;
    private static final int TERMS = 0;

    /** The words of each promise (of the terms: 0), and which of their characters are told. */
    private final Map<Integer, String> words = new TreeMap<>();
    private final Map<Integer, boolean[]> told = new TreeMap<>();
    private int tests = 0;

    public static void main(String[] args) throws IOException {
        BoundariesTest test = new BoundariesTest();
        test.readDocument(Files.readString(Path.of(args[1])));
        for (Class<?> cases : CASES) {
            test.runAll(cases);
        }
        test.seekUntold();
        System.out.println(test.tests + " tests, " + asked() + " answers asked for, " + wrong()
            + " things not as due");
        if (wrong() != 0) {
            System.exit(1);
        }
    }

    // ---- the document

    private void readDocument(String document) {
        begin("the document");
        String once = Pattern.compile("(?s)## What it is.*?\n(An object is .*?)\n## ").matcher(document)
            .results().map(found -> found.group(1)).findFirst().orElse("");
        String terms = between(document, "\n## Terms\n", "\n## Promise 1:")
            .replaceAll("(?m)^Ahead of the calls .*$", "").replaceAll("(?m)^```.*$|==== \\d\\.", "");
        keep(TERMS, once + " " + terms);
        Matcher promise = Pattern.compile("(?s)\n## Promise (\\d+): .*?\n\n`[^`]*`: ([^\n]*)")
            .matcher(document);
        while (promise.find()) {
            keep(Integer.parseInt(promise.group(1)), promise.group(2));
        }
        due("promises in the document", words.size() - 1, PROMISES);
    }

    private static String between(String document, String from, String to) {
        int begin = document.indexOf(from);
        int end = document.indexOf(to);
        if (begin < 0 || end < begin) {
            fail("the document has no '" + from + "' ahead of '" + to + "'");
            return "";
        }
        return document.substring(begin + from.length(), end);
    }

    private void keep(int promise, String text) {
        String plain = text.replaceAll("\\s+", " ");
        words.put(promise, plain);
        told.put(promise, new boolean[plain.length()]);
    }

    /** Notes that a test tells some words; whether they stand there. */
    private boolean tell(int promise, String says) {
        String text = words.getOrDefault(promise, "");
        boolean found = false;
        for (int at = text.indexOf(says); at >= 0; at = text.indexOf(says, at + 1)) {
            Arrays.fill(told.get(promise), at, at + says.length(), true);
            found = true;
        }
        return found;
    }

    private void seekUntold() {
        begin("the document");
        for (int promise : words.keySet()) {
            String text = words.get(promise);
            StringBuilder left = new StringBuilder();
            for (int i = 0; i < text.length(); i++) {
                left.append(told.get(promise)[i] ? '.' : text.charAt(i));
            }
            if (Pattern.compile("\\w").matcher(left).find()) {
                fail("words of " + (promise == TERMS ? "the terms" : "promise " + promise)
                    + " that no test tells: " + left);
            }
        }
    }

    // ---- the tests

    private void runAll(Class<?> cases) {
        Method[] methods = cases.getDeclaredMethods();
        Arrays.sort(methods, Comparator.comparing(Method::getName));
        for (Method method : methods) {
            Says says = method.getAnnotation(Says.class);
            if (says != null) {
                begin(method.getName());
                tellAll(promiseOf(method.getName()), says.value());
                runOne(method);
            }
        }
    }

    private static int promiseOf(String name) {
        Matcher number = Pattern.compile("promise(\\d\\d)_\\w+").matcher(name);
        return number.matches() ? Integer.parseInt(number.group(1)) : TERMS;
    }

    private void tellAll(int promise, String[] says) {
        if (promise == TERMS) {
            fail("it is not named after a promise");
        }
        for (String some : says) {
            boolean ofPromise = tell(promise, some);
            if (!tell(TERMS, some) && !ofPromise) {
                fail("the document doesn't say '" + some + "'");
            }
        }
    }

    private void runOne(Method method) {
        tests++;
        int before = asked();
        try {
            method.invoke(null);
        } catch (IllegalAccessException | InvocationTargetException e) {
            fail("it threw " + (e.getCause() == null ? e : e.getCause()));
        }
        if (asked() == before) {
            fail("it asks for nothing");
        }
    }
}
