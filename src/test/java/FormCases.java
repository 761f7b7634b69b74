/** Promise 5: a form that is loaded, and each fault that it can have. */
final class FormCases extends Bench {
    private static void faulty(int kind, int place, int... bytes) {
        PairPacker x = new PairPacker();
        due("the answer", load(x, bytes), -30 - kind);
        due("its fault", x.fault(0), kind);
        due("its place", x.fault(1), place);
        due("bytes on the tape", x.count(5), 0);
        due("bytes of the form", x.count(9), 2);
        due("calls that can be undone", x.count(6), 0);
    }

    private static void taken(int letters, int... bytes) {
        PairPacker x = new PairPacker();
        due("the answer", load(x, bytes), letters);
        due("its fault", x.fault(0), 0);
        due("its place", x.fault(1), NONE);
        due("bytes on the tape", x.count(5), 0);
        due("bytes of the form", x.count(9), bytes.length);
        due("letters", x.count(0), letters);
    }

    /** A form of one rule whose row has so many a's, and a sequence of it. */
    private static int[] oneRow(int length) {
        int[] bytes = new int[5 + length];
        bytes[0] = 1;
        bytes[1] = 26;
        bytes[2] = length;
        bytes[3 + length] = 1;
        bytes[4 + length] = 26;
        return bytes;
    }

    /** A form of no rules and so many a's. */
    private static int[] oneSequence(int length) {
        int[] bytes = new int[2 + length];
        bytes[1] = length;
        return bytes;
    }

    // ---- what it does

    @Says({"They are a FORM: THE SEQUENCE, RULES are as told: how many LETTERS THE TEXT has.",
        "THE FORM, bytes: how many RULES there are; of each its SIGN, the length of its ROW, the ROW;"
            + " how many SIGNS THE SEQUENCE has; these."})
    static void promise05_load_asTold() {
        PairPacker x = packed("zyzyzyzy");
        due("letters", load(x, 2, 85, 3, 0, 1, 2, 26, 2, 85, 85, 3, 26, 25, 85), 10);
        dueText("the sequence", sequence(x), "26 25 85");
        dueText("a row", row(x, 85), "0 1 2");
        dueText("another one", row(x, 26), "85 85");
        due("no rule of ahead", x.rule(27, 0), -2);
        due("rules", x.count(2), 2);
        dueText("the text", letters(x), "abcabczabc");
    }

    @Says("They are a FORM")
    static void promise05_load_theFirstBytesAlone() {
        PairPacker x = new PairPacker();
        feedBytes(x, 0, 1, 25, 99, 99);
        due("three bytes", x.load(3), 1);
        due("the letter", x.at(0), 25);
        due("the tape is empty", x.count(5), 0);
    }

    @Says("how many LETTERS THE TEXT has.")
    static void promise05_load_nothing() {
        PairPacker x = packed("abababab");
        due("a form of nothing", load(x, 0, 0), 0);
        due("no rules", x.count(2), 0);
        due("no letters", x.count(0), 0);
        due("it can be undone", x.undo(1), 2);
        dueText("as it was", sequence(x), "27 27");
    }

    @Says("-3 likewise; a FAULT.")
    static void promise05_load_belowZeroAboveWhatThereIs() {
        refused("-1", Bench::busy, x -> x.load(-1), -3);
        refused("the least int", Bench::busy, x -> x.load(MIN), -3);
        refused("21 of 20", Bench::busy, x -> x.load(21), -3);
        refused("far above", Bench::busy, x -> x.load(MAX), -3);
        due("1 of none", new PairPacker().load(1), -3);
    }

    @Says({"-3 likewise; a FAULT.", "(THE TAPE is empty then; nothing else changes)"})
    static void promise05_load_fault_nothingElseChanges() {
        PairPacker x = packed("abababab");
        x.image(0);
        seek(x, "ba");
        due("a fault in the last byte", load(x, 1, 27, 2, 3, 3, 1, 86), -33);
        due("the tape is empty", x.count(5), 0);
        dueText("the sequence", sequence(x), "27 27");
        dueText("27", row(x, 27), "26 26");
        due("rules", x.count(2), 2);
        due("the phrase", x.hits(2), 2);
        due("calls that can be undone", x.count(6), 2);
        due("the image", x.restore(0), 0);
        dueText("is as it was", sequence(x), "27 27");
    }

    @Says("They are a FORM")
    static void promise05_load_behindAFault() {
        PairPacker x = new PairPacker();
        load(x, 2, 26, 2, 0, 0, 27, 2, 26, 86);
        due("rules told again", load(x, 1, 26, 2, 1, 1, 1, 26), 2);
        dueText("its row", row(x, 26), "1 1");
        due("27 isn't there", x.rule(27, 0), -2);
    }

    // ---- limits that a form may reach

    @Says("RULES above 60")
    static void promise05_load_sixtyRules() {
        PairPacker x = full(85);
        due("rules", x.count(2), 60);
        due("none is free", x.count(8), NONE);
    }

    @Says("2 a byte that can't be so: RULES above 60")
    static void promise05_load_fault2_above60Rules() {
        faulty(2, 0, 61, 26, 2, 0, 0);
        faulty(2, 0, 61);
        faulty(2, 0, 255);
    }

    @Says({"a RULE's SIGN that isn't 26 to 85", "RULES: SIGNS 26 to 85"})
    static void promise05_load_signs26And85() {
        taken(2, 1, 26, 2, 0, 0, 1, 26);
        taken(2, 1, 85, 2, 0, 0, 1, 85);
    }

    @Says("a RULE's SIGN that isn't 26 to 85")
    static void promise05_load_fault2_noSignOfARule() {
        faulty(2, 1, 1, 25, 2, 0, 0, 1, 0);
        faulty(2, 1, 1, 0, 2, 0, 0, 1, 0);
        faulty(2, 1, 1, 86, 2, 0, 0, 1, 0);
        faulty(2, 1, 1, 255, 2, 0, 0, 1, 0);
        faulty(2, 5, 2, 26, 2, 0, 0, 25, 2, 0, 0, 1, 0);
    }

    @Says({"a length not 2 to 12", "each a ROW of 2 to 12 SIGNS (or none)"})
    static void promise05_load_rowsOf2And12() {
        taken(2, oneRow(2));
        taken(12, oneRow(12));
    }

    @Says("a length not 2 to 12")
    static void promise05_load_fault2_lengthOfARow() {
        faulty(2, 2, oneRow(0));
        faulty(2, 2, oneRow(1));
        faulty(2, 2, oneRow(13));
        faulty(2, 2, 1, 26, 255);
    }

    @Says({"more than 240 SIGNS;", "THE SEQUENCE: a row of SIGNS, 240 at most."})
    static void promise05_load_240Signs() {
        taken(240, oneSequence(240));
    }

    @Says("more than 240 SIGNS;")
    static void promise05_load_fault2_above240Signs() {
        faulty(2, 1, oneSequence(241));
        faulty(2, 1, 0, 255);
        faulty(2, 5, 1, 26, 2, 0, 0, 241);
    }

    // ---- fault 3

    @Says("3 a SIGN of a RULE told twice (at it)")
    static void promise05_load_fault3_aRuleToldTwice() {
        faulty(3, 5, 2, 26, 2, 0, 0, 26, 2, 1, 1, 1, 26);
        faulty(3, 9, 3, 26, 2, 0, 0, 27, 2, 0, 0, 26, 2, 1, 1, 1, 26);
    }

    @Says("3 a SIGN of a RULE told twice (at it)")
    static void promise05_load_rowsMayBeAlike() {
        taken(4, 2, 26, 2, 0, 0, 27, 2, 0, 0, 2, 26, 27);
    }

    @Says("a SIGN in a ROW, in THE SEQUENCE that is no LETTER, and no RULE told whole ahead;")
    static void promise05_load_fault3_inARow() {
        faulty(3, 4, 1, 26, 2, 0, 27, 1, 26);
        faulty(3, 3, 1, 26, 2, 86, 0, 1, 26);
        faulty(3, 3, 1, 26, 2, 255, 0, 1, 26);
    }

    @Says({"and no RULE told whole ahead;", "(RULES never go round;"})
    static void promise05_load_fault3_itselfInItsRow() {
        faulty(3, 3, 1, 26, 2, 26, 0, 1, 26);
        faulty(3, 4, 1, 26, 2, 0, 26, 1, 26);
    }

    @Says("and no RULE told whole ahead;")
    static void promise05_load_fault3_oneToldLater() {
        faulty(3, 3, 2, 27, 2, 26, 0, 26, 2, 0, 0, 1, 27);
        taken(3, 2, 26, 2, 0, 0, 27, 2, 26, 0, 1, 27);
    }

    @Says("a SIGN in a ROW, in THE SEQUENCE that is no LETTER, and no RULE told whole ahead;")
    static void promise05_load_fault3_inTheSequence() {
        faulty(3, 2, 0, 1, 26);
        faulty(3, 3, 0, 2, 25, 85);
        faulty(3, 2, 0, 1, 86);
        faulty(3, 2, 0, 1, 255);
        faulty(3, 6, 1, 26, 2, 0, 0, 1, 27);
        taken(1, 0, 1, 25);
    }

    // ---- fault 4

    @Says({"4 a ROW, THE SEQUENCE by which a WORD, THE TEXT has more than 240 LETTERS",
        "a WORD has 240 LETTERS at most.)"})
    static void promise05_load_aWordOf240() {
        taken(240, 3, 26, 12, 0, 0, 0, 0, 0, 0, 0, 0, 0, 0, 0, 0,
            27, 12, 26, 26, 26, 26, 26, 26, 26, 26, 26, 26, 26, 26,
            28, 9, 27, 26, 26, 26, 26, 26, 26, 26, 26, 1, 28);
    }

    @Says({"4 a ROW, THE SEQUENCE by which a WORD, THE TEXT has more than 240 LETTERS",
        "(at the SIGN by which it has);"})
    static void promise05_load_fault4_aWordOf241() {
        faulty(4, 40, 3, 26, 12, 0, 0, 0, 0, 0, 0, 0, 0, 0, 0, 0, 0,
            27, 12, 26, 26, 26, 26, 26, 26, 26, 26, 26, 26, 26, 26,
            28, 11, 27, 26, 26, 26, 26, 26, 26, 26, 26, 1, 1, 0);
    }

    @Says("(at the SIGN by which it has);")
    static void promise05_load_fault4_aRowFarTooLong() {
        faulty(4, 32, 3, 26, 12, 0, 0, 0, 0, 0, 0, 0, 0, 0, 0, 0, 0,
            27, 12, 26, 26, 26, 26, 26, 26, 26, 26, 26, 26, 26, 26, 28, 3, 27, 27, 27, 0);
    }

    @Says({"4 a ROW, THE SEQUENCE by which a WORD, THE TEXT has more than 240 LETTERS",
        "it never has more than 240 LETTERS"})
    static void promise05_load_aTextOf240() {
        taken(240, big(0));
    }

    @Says({"4 a ROW, THE SEQUENCE by which a WORD, THE TEXT has more than 240 LETTERS",
        "(at the SIGN by which it has);"})
    static void promise05_load_fault4_aTextOf241() {
        faulty(4, 39, big(1));
        faulty(4, 39, big(2));
    }

    // ---- fault 1

    @Says("1 a byte behind the last one (at it;")
    static void promise05_load_fault1_aByteBehind() {
        faulty(1, 2, 0, 0, 0);
        faulty(1, 3, 0, 1, 0, 0, 0);
        faulty(1, 7, 1, 26, 2, 0, 0, 1, 26, 255);
    }

    @Says("if it ends too soon: how many bytes there are).")
    static void promise05_load_fault1_itEndsTooSoon() {
        int[] whole = {2, 26, 3, 0, 1, 2, 27, 2, 26, 3, 3, 27, 0, 26};
        taken(8, whole);
        for (int n = 0; n < whole.length; n++) {
            faulty(1, n, java.util.Arrays.copyOf(whole, n));
        }
    }

    @Says("if it ends too soon: how many bytes there are).")
    static void promise05_load_fault1_theTapeGoesOn() {
        PairPacker x = new PairPacker();
        feedBytes(x, 0, 2, 0, 0);
        due("three of them", x.load(3), -31);
        due("as many as were told to take", x.fault(1), 3);
    }

    // ---- of several

    @Says("FAULTS of a FORM, the first along the bytes, of one place the least:")
    static void promise05_load_theFirstFaultAlongTheBytes() {
        faulty(2, 1, 1, 25, 1, 99);
        faulty(2, 2, 1, 26, 1, 99);
        faulty(3, 3, 1, 26, 2, 99, 99, 241);
        faulty(3, 5, 2, 26, 2, 0, 0, 26, 13);
        faulty(2, 6, 2, 26, 2, 0, 0, 27, 13, 99);
        faulty(3, 2, 0, 2, 26);
        faulty(3, 2, 0, 1, 26, 0);
        faulty(2, 0, 61);
        // the text is too long ahead of the sign that is none, and ahead of the end
        int[] bytes = big(2);
        bytes[40] = 99;
        faulty(4, 39, bytes);
        faulty(4, 39, java.util.Arrays.copyOf(big(2), 40));
    }
}
