import java.io.IOException;
import java.lang.management.ManagementFactory;
import java.lang.reflect.Constructor;
import java.lang.reflect.Field;
import java.lang.reflect.Method;
import java.lang.reflect.Modifier;
import java.nio.file.Files;
import java.nio.file.Path;
import java.util.Arrays;
import java.util.List;
import java.util.Set;
import java.util.TreeSet;
import java.util.regex.Matcher;
import java.util.regex.Pattern;

/** The class's face as the document shows it, and what can be seen of LANGUAGE.md's rules. */
public final class FaceTest {
    private static int wrong = 0;

    public static void main(String[] args) throws IOException {
        String source = Files.readString(Path.of(args[0]));
        String document = Files.readString(Path.of(args[1]));
        face(document);
        inside();
        words(source);
        lengths(source);
        room();
        System.out.println(wrong == 0 ? "the face is as told" : wrong + " things are not as told");
        if (wrong != 0) {
            System.exit(1);
        }
    }

    private static void due(boolean holds, String what) {
        if (!holds) {
            wrong++;
            System.out.println(what);
        }
    }

    private static void face(String document) {
        Set<String> told = new TreeSet<>();
        Matcher line = Pattern.compile("(?m)^    (public [^;]*);").matcher(document);
        while (line.find()) {
            told.add(line.group(1).replaceAll("int [a-z]+(?=[,)])", "int"));
        }
        Set<String> found = new TreeSet<>();
        Class<?> kind = PairPacker.class;
        for (Field field : kind.getDeclaredFields()) {
            if (!Modifier.isPrivate(field.getModifiers())) {
                found.add("public static final int " + field.getName() + " = " + PairPacker.NONE);
            }
        }
        for (Constructor<?> made : kind.getDeclaredConstructors()) {
            found.add(Modifier.toString(made.getModifiers()) + " PairPacker()");
        }
        for (Method method : kind.getDeclaredMethods()) {
            if (!Modifier.isPrivate(method.getModifiers())) {
                String ints = "int, ".repeat(method.getParameterCount()).replaceAll(", $", "");
                found.add(Modifier.toString(method.getModifiers()) + " int " + method.getName()
                    + "(" + ints + ")");
            }
        }
        due(told.size() == 43, "the document's face has " + told.size() + " lines");
        due(told.equals(found), "told: " + told + "\nfound: " + found);
        due(Modifier.isFinal(kind.getModifiers()), "the class is not final");
    }

    private static void inside() {
        Set<String> open = new TreeSet<>();
        for (Method method : PairPacker.class.getDeclaredMethods()) {
            if (Modifier.isPublic(method.getModifiers())) {
                open.add(method.getName());
            }
        }
        Class<?>[] kinds = PairPacker.class.getDeclaredClasses();
        due(kinds.length < 12, kinds.length + " classes inside");
        for (Class<?> kind : kinds) {
            due(Modifier.isStatic(kind.getModifiers()) && !Modifier.isPublic(kind.getModifiers()),
                kind + " is not static, or it is public");
            due(Arrays.stream(kind.getDeclaredFields())
                .filter(f -> !Modifier.isStatic(f.getModifiers())).count() <= 20,
                kind + " has too many fields");
            for (Method method : kind.getDeclaredMethods()) {
                due(!open.contains(method.getName()), method + " bears the name of a public one");
            }
        }
        for (Method method : PairPacker.class.getDeclaredMethods()) {
            due(method.getParameterCount() <= 7, method + " has too many parameters");
            due(!Modifier.isPrivate(method.getModifiers()) || !open.contains(method.getName()),
                method + " bears the name of a public one");
        }
        for (Field field : PairPacker.class.getDeclaredFields()) {
            due(!Modifier.isStatic(field.getModifiers())
                || Modifier.isFinal(field.getModifiers()), field + " is static, and not final");
        }
    }

    private static void words(String source) {
        String code = source.replaceAll("(?s)/\\*.*?\\*/|//[^\n]*", "");
        for (String barred : List.of("->", "::", "@", "\"")) {
            due(!code.contains(barred), "there is a " + barred);
        }
        for (String barred : List.of("throw", "throws", "try", "catch", "finally", "assert", "import",
            "package", "synchronized", "instanceof", "record", "var", "yield", "NaN", "System",
            "Math", "Float", "Integer", "equals", "hashCode", "toString", "this")) {
            String allowed = barred.equals("System") ? "(?!\\.arraycopy\\()"
                : barred.equals("Math") ? "(?!\\.(min|max|floorMod)\\()" : "";
            due(!Pattern.compile("\\b" + barred + "\\b" + allowed).matcher(code).find(),
                "there is a " + barred);
        }
        due(!Pattern.compile("static\\s*\\{").matcher(code).find(), "there is a static block");
        due(!Pattern.compile("(while|for) \\((true|;;)").matcher(code).find(), "a loop has no end");
        due(source.chars().allMatch(c -> c < 128), "a sign is above 127");
    }

    private static void lengths(String source) {
        int begin = 0;
        String[] lines = source.split("\n", -1);
        for (int i = 0; i < lines.length; i++) {
            due(lines[i].length() <= 110, "line " + (i + 1) + " is long");
            if (lines[i].matches(" {4,8}[^ /*].*\\) \\{")) {
                begin = i;
            }
            if (lines[i].matches(" {4,8}\\}")) {
                due(i - begin <= 60, "what begins at line " + (begin + 1) + " is long");
            }
        }
    }

    /** All that a run needs is made with the object: the calls of a run make hardly a byte more. */
    private static void room() {
        com.sun.management.ThreadMXBean bean =
            (com.sun.management.ThreadMXBean) ManagementFactory.getThreadMXBean();
        long self = Thread.currentThread().getId();
        calls(new PairPacker());
        PairPacker x = new PairPacker();
        long before = bean.getThreadAllocatedBytes(self);
        calls(x);
        long made = bean.getThreadAllocatedBytes(self) - before;
        due(made < 20000, "the calls made " + made + " bytes");
    }

    private static void calls(PairPacker x) {
        for (int i = 0; i < 512; i += 32) {
            x.feed(0x61626162, 0x62616162, 0x61626361, 0x63626163, 0x61626162);
            x.phrase(3);
            x.feed(0x61626162, 0x62616162, 0x61626361, 0x63626163, 0x61626162);
            x.text(20);
            x.step();
            x.replace(x.sign(0), x.sign(1));
            x.pack();
            x.put(7, 5);
            x.cut(3, 2);
            x.insert(0, 4);
            x.drop(26);
            x.trim();
            x.image(0);
            x.best(2);
            x.bits(1);
            x.form(4);
            x.code(0, 1);
            x.count(10);
            x.repeat();
            x.hits(1);
            x.rule(27, 5);
            x.undo(1);
            x.unpack();
            x.restore(0);
        }
    }
}
