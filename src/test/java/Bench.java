import java.util.function.Supplier;
import java.util.function.ToIntFunction;

/** What the tests by hand share: objects made ready, and questions with the answers that are due. */
abstract class Bench {
    static final int NONE = -1;
    static final int MIN = Integer.MIN_VALUE;
    static final int MAX = Integer.MAX_VALUE;

    private static String test = "";
    private static int wrong = 0;
    private static int asked = 0;

    // ---- how it is told

    static void begin(String name) {
        test = name;
    }

    static int asked() {
        return asked;
    }

    static int wrong() {
        return wrong;
    }

    static void due(String what, int got, int want) {
        asked++;
        if (got != want) {
            fail(what + ": " + got + ", due is " + want);
        }
    }

    static void dueText(String what, String got, String want) {
        asked++;
        if (!got.equals(want)) {
            fail(what + ": '" + got + "', due is '" + want + "'");
        }
    }

    static void fail(String what) {
        wrong++;
        System.out.println(test + ": " + what);
    }

    // ---- bytes onto the tape

    static void feedBytes(PairPacker x, int... bytes) {
        for (int at = 0; at < bytes.length; at += 20) {
            int[] five = new int[5];
            for (int i = 0; i < 20; i++) {
                five[i / 4] = five[i / 4] << 8 | (at + i < bytes.length ? bytes[at + i] : 0);
            }
            x.feed(five[0], five[1], five[2], five[3], five[4]);
        }
    }

    static void feedText(PairPacker x, String letters) {
        feedBytes(x, letters.chars().toArray());
    }

    static int text(PairPacker x, String letters) {
        feedText(x, letters);
        return x.text(letters.length());
    }

    static int seek(PairPacker x, String phrase) {
        feedText(x, phrase);
        return x.phrase(phrase.length());
    }

    static int load(PairPacker x, int... bytes) {
        feedBytes(x, bytes);
        return x.load(bytes.length);
    }

    // ---- objects made ready

    static PairPacker of(String letters) {
        PairPacker x = new PairPacker();
        due("the text is taken", text(x, letters), letters.length());
        return x;
    }

    static PairPacker packed(String letters) {
        PairPacker x = of(letters);
        x.pack();
        return x;
    }

    static PairPacker ofForm(int... bytes) {
        PairPacker x = new PairPacker();
        due("the form is taken", load(x, bytes) >= 0 ? 1 : 0, 1);
        return x;
    }

    /** Rules 26 to 25 + n, each of the same pair, and a sequence. */
    static PairPacker alike(int n, int left, int right, int... sequence) {
        int[] bytes = new int[2 + 4 * n + sequence.length];
        bytes[0] = n;
        for (int i = 0; i < n; i++) {
            bytes[1 + 4 * i] = 26 + i;
            bytes[2 + 4 * i] = 2;
            bytes[3 + 4 * i] = left;
            bytes[4 + 4 * i] = right;
        }
        bytes[1 + 4 * n] = sequence.length;
        System.arraycopy(sequence, 0, bytes, 2 + 4 * n, sequence.length);
        return ofForm(bytes);
    }

    /** All 60 rules taken: 26 is "aa", each other one "ab". */
    static PairPacker full(int... sequence) {
        int[] bytes = new int[2 + 60 * 4 + sequence.length];
        int at = 0;
        bytes[at++] = 60;
        for (int sign = 26; sign <= 85; sign++) {
            bytes[at++] = sign;
            bytes[at++] = 2;
            bytes[at++] = 0;
            bytes[at++] = sign == 26 ? 0 : 1;
        }
        bytes[at++] = sequence.length;
        for (int part : sequence) {
            bytes[at++] = part;
        }
        return ofForm(bytes);
    }

    /** Rules 26 to 26 + n - 1, each the one ahead and an a; a sequence of the last one. */
    static PairPacker deep(int n) {
        int[] bytes = new int[3 + 4 * n];
        int at = 0;
        bytes[at++] = n;
        for (int sign = 26; sign < 26 + n; sign++) {
            bytes[at++] = sign;
            bytes[at++] = 2;
            bytes[at++] = sign == 26 ? 0 : sign - 1;
            bytes[at++] = 0;
        }
        bytes[at++] = 1;
        bytes[at] = 25 + n;
        return ofForm(bytes);
    }

    /** A form: 26 has 12 letters, 27 has 144; a sequence of 240 letters, and so many a's more. */
    static int[] big(int more) {
        int[] bytes = new int[39 + more];
        int[] head = {2, 26, 12, 0, 0, 0, 0, 0, 0, 0, 0, 0, 0, 0, 0,
            27, 12, 26, 26, 26, 26, 26, 26, 26, 26, 26, 26, 26, 26, 9 + more, 27};
        System.arraycopy(head, 0, bytes, 0, head.length);
        for (int i = 31; i < 39; i++) {
            bytes[i] = 26;
        }
        return bytes;
    }

    /**
     * One of everything: rules, a phrase, a fault, twenty letters on the tape, calls that can be
     * undone, and an image 0 of another packing.
     */
    static PairPacker busy() {
        PairPacker x = of("abababcabababc");
        x.replace(0, 1);
        x.image(0);
        x.pack();
        seek(x, "bab");
        text(x, "ab?");
        feedText(x, "zyxwvutsrqponmlkjihg");
        return x;
    }

    // ---- what an object tells

    static String sequence(PairPacker x) {
        StringBuilder told = new StringBuilder();
        for (int i = 0; x.sign(i) >= 0; i++) {
            told.append(i == 0 ? "" : " ").append(x.sign(i));
        }
        return told.toString();
    }

    static String row(PairPacker x, int sign) {
        StringBuilder told = new StringBuilder();
        for (int what = 10; what <= 21 && x.rule(sign, what) >= 0; what++) {
            told.append(what == 10 ? "" : " ").append(x.rule(sign, what));
        }
        return told.toString();
    }

    static String letters(PairPacker x) {
        StringBuilder told = new StringBuilder();
        int size = x.count(0);
        for (int i = 0; i < size; i++) {
            told.append((char) ('a' + x.at(i)));
        }
        return told.toString();
    }

    /** The sequence, the rules, the fault, the phrase; how much is on the tape, can be undone. */
    static String all(PairPacker x) {
        StringBuilder told = new StringBuilder();
        int bytes = x.count(9);
        for (int i = 0; i < bytes; i++) {
            told.append(x.form(i)).append(' ');
        }
        told.append("tape ").append(x.count(5)).append(" undo ").append(x.count(6));
        told.append(" fault ").append(x.fault(0)).append(' ').append(x.fault(1));
        told.append(" phrase ").append(x.hits(2)).append(' ').append(x.hits(0));
        return told.toString();
    }

    /**
     * A call is refused by a code, and an object on which it was made goes on as one on which it
     * was not: what can be asked, what is on the tape, what can be undone, the images.
     */
    static void refused(String what, Supplier<PairPacker> made, ToIntFunction<PairPacker> call,
            int code) {
        PairPacker x = made.get();
        PairPacker other = made.get();
        due(what, call.applyAsInt(x), code);
        dueText(what + " changes nothing", all(x), all(other));
        due(what + ": the tape", x.text(x.count(5)), other.text(other.count(5)));
        dueText(what + ": on the tape", all(x), all(other));
        int calls = x.count(6);
        due(what + ": undone", x.undo(calls), other.undo(calls));
        dueText(what + ": behind", all(x), all(other));
        for (int i = 0; i < 2; i++) {
            due(what + ": image " + i, x.restore(i), other.restore(i));
            dueText(what + ": of image " + i, all(x), all(other));
        }
    }
}
