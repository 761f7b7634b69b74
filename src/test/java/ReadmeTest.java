import java.io.ByteArrayOutputStream;
import java.io.IOException;
import java.io.PrintStream;
import java.lang.reflect.Method;
import java.lang.reflect.Modifier;
import java.nio.charset.StandardCharsets;
import java.nio.file.Files;
import java.nio.file.Path;
import java.util.Arrays;
import java.util.Set;
import java.util.TreeSet;
import java.util.regex.Matcher;
import java.util.regex.Pattern;

/** README.md, held to the class: each call it shows is made, and its first program is run. */
public final class ReadmeTest extends Bench {
    private static final Pattern BLOCK = Pattern.compile("(?s)```(\\w+)\n(.*?)```");
    private static final Pattern CALL =
        Pattern.compile("packer\\.(\\w+)\\(([^()]*)\\); +// (-?\\d+): \\S.*");
    private static final String NEW_OBJECT = "PairPacker packer = new PairPacker();";

    private final Set<String> shown = new TreeSet<>();
    private PairPacker packer = null;
    private int made = 0;

    public static void main(String[] args) throws IOException {
        begin("README.md");
        ReadmeTest test = new ReadmeTest();
        test.readPage(Files.readString(Path.of("README.md")));
        System.out.println(asked() + " things that README.md tells, " + wrong() + " do not hold");
        if (wrong() != 0) {
            System.exit(1);
        }
    }

    private void readPage(String page) throws IOException {
        String example = Files.readString(Path.of("src/test/java/Example.java"));
        boolean isProgramShown = false;
        boolean isOutputShown = false;
        Matcher block = BLOCK.matcher(page);
        while (block.find()) {
            String text = block.group(2);
            if (block.group(1).equals("text")) {
                isOutputShown = true;
                dueText("what the first program prints", text, printed());
            } else if (text.equals(example)) {
                isProgramShown = true;
            } else if (block.group(1).equals("java")) {
                text.lines().forEach(this::tryLine);
            }
        }
        dueText("the first program and what it prints", isProgramShown + " " + isOutputShown,
            "true true");
        dueText("calls that the page shows", shown.toString(), callsOfFace().toString());
    }

    private static String printed() {
        PrintStream console = System.out;
        ByteArrayOutputStream kept = new ByteArrayOutputStream();
        System.setOut(new PrintStream(kept, true, StandardCharsets.UTF_8));
        try {
            Example.main(new String[0]);
        } finally {
            System.setOut(console);
        }
        return kept.toString(StandardCharsets.UTF_8).replace(System.lineSeparator(), "\n");
    }

    private void tryLine(String line) {
        if (line.equals(NEW_OBJECT)) {
            packer = new PairPacker();
            made = 0;
            return;
        }
        Matcher call = CALL.matcher(line);
        if (!call.matches() || packer == null) {
            fail("a line that is no call with its answer: " + line);
            return;
        }
        made++;
        if (made > 512) {
            fail("behind 512 calls nothing is promised: " + line);
        }
        shown.add(call.group(1));
        due(line, answer(call.group(1), call.group(2)), Integer.parseInt(call.group(3)));
    }

    private int answer(String name, String list) {
        Object[] numbers = list.isEmpty() ? new Object[0]
            : Arrays.stream(list.split(", ")).map(n -> Long.decode(n).intValue()).toArray();
        Class<?>[] kinds = new Class<?>[numbers.length];
        Arrays.fill(kinds, int.class);
        try {
            return (Integer) PairPacker.class.getMethod(name, kinds).invoke(packer, numbers);
        } catch (ReflectiveOperationException e) {
            fail(name + "(" + list + ") can't be called: " + e);
            return MIN;
        }
    }

    private static Set<String> callsOfFace() {
        Set<String> calls = new TreeSet<>();
        for (Method method : PairPacker.class.getDeclaredMethods()) {
            if (Modifier.isPublic(method.getModifiers())) {
                calls.add(method.getName());
            }
        }
        return calls;
    }
}
