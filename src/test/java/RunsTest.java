import java.lang.reflect.Method;
import java.util.ArrayList;
import java.util.Arrays;
import java.util.List;

/** Long runs of calls, the same on the program and on the Model: each answer must be the same. */
public final class RunsTest {
    private static final int RUNS = 2500;
    // what an object answers behind so many calls, the document leaves free
    private static final int CALLS = 512;
    private static final int[] ODD = {
        Integer.MIN_VALUE, Integer.MIN_VALUE + 1, -1000000, -2, -1, 0, 1, 2, 25, 26, 27, 60, 85, 86,
        87, 239, 240, 241, 255, 260, 1000000, Integer.MAX_VALUE - 1, Integer.MAX_VALUE};
    private static final String[] ASKED = {
        "fault", "sign", "rule", "word", "pairs", "pick", "at", "within", "way", "ahead", "where",
        "common", "compare", "print", "repeat", "repeatAt", "hit", "hits", "gain", "best", "bits",
        "form", "code", "coded", "count"};

    private final int run;
    private final PairPacker packer = new PairPacker();
    private final Model model = new Model();
    private final List<String> told = new ArrayList<>();
    private long seed;
    private int wrong = 0;
    private int letters;

    private RunsTest(int run) {
        this.run = run;
        this.seed = 77771L * run + 12345;
    }

    public static void main(String[] args) {
        int wrong = 0;
        for (int run = 0; run < RUNS && wrong == 0; run++) {
            wrong += new RunsTest(run).play();
        }
        System.out.println(wrong == 0 ? RUNS + " runs are as the model's" : "a run went wrong");
        if (wrong != 0) {
            System.exit(1);
        }
    }

    private int play() {
        letters = 1 + dice(5);
        for (int i = 0; i < CALLS && goesOn(); i++) {
            change();
            for (int k = dice(10); k > 0 && goesOn(); k--) {
                ask();
            }
            if (dice(8) == 0) {
                look();
            }
        }
        return wrong;
    }

    private boolean goesOn() {
        return wrong == 0 && told.size() < CALLS;
    }

    private int dice(int sides) {
        seed = seed * 6364136223846793005L + 1442695040888963407L;
        return (int) ((seed >>> 33) % sides);
    }

    private void both(String name, int... args) {
        if (!goesOn()) {
            return;
        }
        String call = name + Arrays.toString(args);
        told.add(call);
        int got;
        int due;
        try {
            got = (Integer) methodOf(PairPacker.class, name, args.length).invoke(packer, box(args));
            due = (Integer) methodOf(Model.class, name, args.length).invoke(model, box(args));
        } catch (ReflectiveOperationException e) {
            System.out.println("run " + run + ": " + call + " threw " + e.getCause());
            wrong++;
            return;
        }
        if (got != due) {
            wrong++;
            System.out.println("run " + run + ", behind " + told.subList(Math.max(0, told.size() - 40),
                told.size()));
            System.out.println("run " + run + ": " + call + " answered " + got + ", due is " + due);
        }
    }

    private static Method methodOf(Class<?> kind, String name, int n) throws NoSuchMethodException {
        Class<?>[] ints = new Class<?>[n];
        Arrays.fill(ints, int.class);
        return kind.getDeclaredMethod(name, ints);
    }

    private static Object[] box(int[] args) {
        return Arrays.stream(args).boxed().toArray();
    }

    // ---- what comes by lot

    private int oddOr(int value) {
        return dice(12) == 0 ? ODD[dice(ODD.length)] : value;
    }

    private int place() {
        int size = model.count(0);
        return oddOr(dice(6) == 0 ? size - 1 + dice(3) : dice(size + 1));
    }

    private int letter() {
        return oddOr(dice(letters));
    }

    private int someRule() {
        int from = 26 + dice(60);
        for (int i = 0; i < 60; i++) {
            int sign = 26 + (from + i) % 60;
            if (model.rule(sign, 0) > 0) {
                return sign;
            }
        }
        return from;
    }

    private int sign() {
        int size = model.count(1);
        if (dice(3) == 0 || size == 0) {
            return oddOr(dice(2) == 0 ? dice(letters) : someRule());
        }
        return oddOr(model.sign(dice(size)));
    }

    private void feedBytes(List<Integer> bytes) {
        for (int at = 0; at < bytes.size(); at += 20) {
            int[] five = new int[5];
            for (int i = 0; i < 20; i++) {
                int read = at + i < bytes.size() ? bytes.get(at + i) : 0;
                five[i / 4] = five[i / 4] << 8 | read & 255;
            }
            both("feed", five[0], five[1], five[2], five[3], five[4]);
        }
    }

    private List<Integer> someText(int length) {
        List<Integer> bytes = new ArrayList<>();
        while (bytes.size() < length) {
            if (bytes.size() > 3 && dice(3) == 0) {
                int from = dice(bytes.size());
                int to = Math.min(bytes.size(), from + 1 + dice(20));
                bytes.addAll(new ArrayList<>(bytes.subList(from, to)));
            } else {
                bytes.add('a' + dice(letters));
            }
        }
        return new ArrayList<>(bytes.subList(0, length));
    }

    private void newText() {
        int length = dice(4) == 0 ? 200 + dice(42) : dice(80);
        List<Integer> bytes = someText(length);
        if (length > 0 && dice(8) == 0) {
            bytes.set(dice(length), ODD[dice(ODD.length)] & 255);
        }
        feedBytes(bytes);
        both("text", oddOr(length));
    }

    private void newPhrase() {
        List<Integer> bytes = someText(dice(10) == 0 ? 15 + dice(8) : 1 + dice(4));
        int size = model.count(0);
        if (size > 0 && dice(3) > 0) {
            int from = dice(size);
            bytes.clear();
            for (int i = from; i < Math.min(size, from + 1 + dice(8)); i++) {
                bytes.add('a' + model.at(i));
            }
        }
        if (dice(10) == 0) {
            bytes.set(dice(bytes.size()), dice(256));
        }
        feedBytes(bytes);
        both("phrase", oddOr(bytes.size()));
    }

    private List<Integer> someForm() {
        List<Integer> known = new ArrayList<>();
        for (int i = 0; i < letters; i++) {
            known.add(i);
        }
        List<Integer> free = new ArrayList<>();
        for (int i = 26; i < 86; i++) {
            free.add(i);
        }
        int rules = dice(4) == 0 ? 56 + dice(5) : dice(12);
        int most = rules > 40 ? 2 : 2 + dice(11);
        int late = 1 + dice(30);
        List<Integer> bytes = new ArrayList<>(List.of(rules));
        for (int i = 0; i < rules; i++) {
            int sign = free.remove(dice(free.size()));
            int length = 2 + dice(most - 1);
            bytes.add(sign);
            bytes.add(length);
            for (int k = 0; k < length; k++) {
                bytes.add(known.get(known.size() - 1 - dice(Math.min(known.size(), late))));
            }
            known.add(sign);
        }
        int mostSigns = dice(5) == 0 ? 200 : 20;
        int length = dice(Math.max(1, Math.min(mostSigns, 260 - bytes.size())));
        int few = dice(known.size());
        bytes.add(length);
        for (int k = 0; k < length; k++) {
            bytes.add(known.get(dice(3) == 0 ? dice(known.size()) : dice(few + 1)));
        }
        return bytes;
    }

    private void newForm() {
        List<Integer> bytes = dice(3) == 0 ? model.formNow() : someForm();
        if (bytes.size() > 260) {
            bytes = new ArrayList<>(bytes.subList(0, 260));
        }
        if (dice(4) == 0) {
            bytes.set(dice(bytes.size()), dice(3) == 0 ? dice(256) : dice(90));
        }
        feedBytes(bytes);
        int n = bytes.size();
        both("load", dice(6) == 0 ? oddOr(dice(n + 2)) : n);
    }

    private void change() {
        switch (dice(20)) {
            case 0: newText(); break;
            case 1: case 2: newForm(); break;
            case 3: case 4: newPhrase(); break;
            case 5: case 6: both("step"); break;
            case 7: both("pack"); break;
            case 8: case 9: replaceOne(); break;
            case 10: both("drop", oddOr(someRule())); break;
            case 11: both("trim"); break;
            case 12: both("unpack"); break;
            case 13: case 14: both("put", place(), letter()); break;
            case 15: both("cut", place(), oddOr(1 + dice(9))); break;
            case 16: both("insert", place(), letter()); break;
            case 17: both("undo", oddOr(1 + dice(4))); break;
            case 18: both("image", oddOr(dice(2))); break;
            default: if (dice(3) == 0) {
                both("restore", oddOr(dice(2)));
            }
        }
    }

    private void replaceOne() {
        int size = model.count(1);
        if (size < 2 || dice(8) == 0) {
            both("replace", sign(), sign());
            return;
        }
        int i = dice(size - 1);
        both("replace", model.sign(i), model.sign(i + 1));
    }

    private void ask() {
        String name = ASKED[dice(ASKED.length)];
        switch (name) {
            case "repeat": case "repeatAt": both(name); break;
            case "best": both(name, oddOr(model.count(1) > 60 ? dice(2) : dice(3))); break;
            case "rule": both(name, sign(), oddOr(dice(24))); break;
            case "code": both(name, sign(), oddOr(dice(3))); break;
            case "pairs": case "gain": both(name, sign(), sign()); break;
            case "word": both(name, sign(), oddOr(dice(12))); break;
            case "within": both(name, place(), oddOr(dice(3))); break;
            case "way": both(name, place(), oddOr(dice(6))); break;
            case "ahead": both(name, letter(), place()); break;
            case "where": both(name, letter(), oddOr(dice(30))); break;
            case "common": case "compare": both(name, place(), place()); break;
            case "print": both(name, place(), place()); break;
            case "at": both(name, place()); break;
            case "count": both(name, oddOr(dice(12))); break;
            case "fault": case "hits": case "bits": both(name, oddOr(dice(4))); break;
            default: both(name, oddOr(dice(20)));
        }
    }

    /** A look at much of what there is: all counts, and a stretch of each row. */
    private void look() {
        for (int i = 0; i <= 10; i++) {
            both("count", i);
        }
        for (int i = 0; i < 3; i++) {
            both("bits", i);
            both("hits", i);
        }
        int from = dice(model.count(9));
        for (int i = from; i < from + 15; i++) {
            both("form", i);
        }
        from = dice(model.count(1) + 1);
        for (int i = from; i < from + 8; i++) {
            both("sign", i);
        }
        for (int i = 0; i < 5; i++) {
            both("pick", i);
            both("coded", i);
            int sign = sign();
            both("code", sign, 1);
            both("rule", sign, dice(6));
        }
        both("repeatAt");
        both("best", model.count(1) > 40 ? 1 : 2);
    }
}
