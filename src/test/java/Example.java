/** Packs a text, and asks what is packed. */
public final class Example {
    public static void main(String[] args) {
        PairPacker packer = new PairPacker();

        String letters = "thecatandthehatandthecat";
        feed(packer, letters);
        System.out.println("letters: " + packer.text(letters.length()));
        System.out.println("pairs replaced: " + packer.pack());
        System.out.println("rules given up: " + packer.trim());

        System.out.println("signs in all: " + packer.count(3));
        for (int i = 0; packer.sign(i) != PairPacker.NONE; i++) {
            int sign = packer.sign(i);
            System.out.println("  sign " + sign + " is " + word(packer, sign));
        }

        feed(packer, "the");
        System.out.println("the: " + packer.phrase(3) + " times");
        for (int i = 0; packer.hit(i) != PairPacker.NONE; i++) {
            System.out.println("  at place " + packer.hit(i));
        }
    }

    /** Puts letters on the tape: four bytes an int, twenty bytes a call (zeros behind the last). */
    private static void feed(PairPacker packer, String letters) {
        for (int from = 0; from < letters.length(); from += 20) {
            int[] ints = new int[5];
            for (int i = 0; i < 20; i++) {
                int letter = from + i < letters.length() ? letters.charAt(from + i) : 0;
                ints[i / 4] = ints[i / 4] << 8 | letter;
            }
            packer.feed(ints[0], ints[1], ints[2], ints[3], ints[4]);
        }
    }

    private static String word(PairPacker packer, int sign) {
        StringBuilder word = new StringBuilder();
        for (int i = 0; packer.word(sign, i) != PairPacker.NONE; i++) {
            word.append((char) ('a' + packer.word(sign, i)));
        }
        return word.toString();
    }
}
