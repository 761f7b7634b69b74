/** Promises 33 to 38: how well the text is packed, its form, its codes. */
final class WellCases extends Bench {
    // ---- promise 33: gain

    @Says({"GAIN of a pair", "by how much SIZE is less if it is REPLACED (below 0 it may be)."})
    static void promise33_gain_byANewRule() {
        due("three times", of("abababc").gain(0, 1), 1);
        due("twice", of("abababc").gain(1, 0), 0);
        due("once, below 0", of("abababc").gain(1, 2), -1);
        due("a run of five", of("aaaaa").gain(0, 0), 0);
        due("240", of("a".repeat(240)).gain(0, 0), 118);
    }

    @Says("(as it would be by replace()")
    static void promise33_gain_asByReplace() {
        String letters = "abababcabababcaabb";
        for (int left = 0; left < 3; left++) {
            for (int right = 0; right < 3; right++) {
                PairPacker x = of(letters);
                x.replace(2, 0);
                int size = x.count(3);
                int told = x.gain(left, right);
                if (x.replace(left, right) >= 0) {
                    due("pair " + left + " " + right, told, size - x.count(3));
                }
            }
        }
    }

    @Says({"(as it would be by replace()", "if there is a RULE whose ROW is just that pair"})
    static void promise33_gain_aRuleOfIt() {
        PairPacker x = ofForm(2, 26, 2, 0, 1, 27, 3, 2, 3, 3, 6, 0, 1, 0, 1, 2, 3);
        due("a rule of just the pair", x.gain(0, 1), 2);
        due("a longer row is none", x.gain(2, 3), -1);
        due("once", ofForm(1, 26, 2, 0, 1, 2, 0, 1).gain(0, 1), 1);
    }

    @Says("also if no number is free: as by a new RULE).")
    static void promise33_gain_noNumberIsFree() {
        PairPacker x = full(2, 3, 2, 3, 2, 3, 0, 0);
        due("as by a new rule", x.gain(2, 3), 1);
        due("nothing", x.gain(3, 2), 0);
        due("below 0", x.gain(3, 0), -1);
        due("but a rule of it", x.gain(0, 0), 1);
    }

    @Says("-2: a SIGN; -5: it doesn't stand there.")
    static void promise33_gain_noSign() {
        for (int sign : new int[] {-1, 30, 85, 86, MIN, MAX}) {
            refused("left " + sign, Bench::busy, x -> x.gain(sign, 0), -2);
            refused("right " + sign, Bench::busy, x -> x.gain(0, sign), -2);
        }
    }

    @Says("-2: a SIGN; -5: it doesn't stand there.")
    static void promise33_gain_notThere() {
        refused("never", Bench::busy, x -> x.gain(25, 25), -5);
        refused("in rows alone", Bench::busy, x -> x.gain(0, 1), -5);
        due("without letters", new PairPacker().gain(0, 0), -5);
        due("one alone", of("a").gain(0, 0), -5);
    }

    // ---- promise 34: best

    @Says({"THE BEST of k.",
        "THE BEST of k: the least SIZE there can be behind k or fewer REPLACES (0 to 2;"})
    static void promise34_best_ofNoneOneTwo() {
        PairPacker x = of("abcabcabcabcabc");
        due("none", x.best(0), 15);
        due("one", x.best(1), 12);
        due("two", x.best(2), 9);
        due("of a new object", new PairPacker().best(2), 0);
    }

    @Says("or fewer REPLACES")
    static void promise34_best_orFewer() {
        due("one is a loss", of("abc").best(1), 3);
        due("two are", of("abc").best(2), 3);
        due("the second is", of("ababab").best(2), 5);
        due("one letter", of("a").best(2), 1);
    }

    @Says({"of any pairs that stand there then", "one behind the other."})
    static void promise34_best_thenAnyPair() {
        due("one of the sign ahead", of("acbacbacbacb").best(2), 8);
        due("two that have nothing alike", of("ababababcdcdcdcd").best(2), 12);
        // aa gains 2, and behind it nothing does; ba gains 1, and behind it aa gains 2 yet
        due("not the best one first", of("baaaaaaababaaa").best(2), 11);
    }

    @Says("each only if there is a number free or a RULE of it)")
    static void promise34_best_noNumberIsFree() {
        PairPacker x = full(2, 3, 2, 3, 2, 3, 2, 3);
        due("one", x.best(1), 128);
        due("two", x.best(2), 128);
    }

    @Says("each only if there is a number free or a RULE of it)")
    static void promise34_best_aRuleOfIt() {
        PairPacker x = full(2, 3, 2, 3, 2, 3, 0, 0, 0, 1);
        due("one of them", x.best(1), 129);
        due("both of them", x.best(2), 128);
        due("a number free, too", ofForm(1, 26, 2, 0, 1, 4, 0, 1, 0, 1).best(1), 4);
    }

    @Says("each only if there is a number free or a RULE of it)")
    static void promise34_best_oneNumberIsFree() {
        int[] twoPairs = {1, 2, 1, 2, 1, 2, 3, 4, 3, 4, 3, 4};
        due("59 rules, one", alike(59, 25, 25, twoPairs).best(1), 118 + 11);
        due("59 rules, two", alike(59, 25, 25, twoPairs).best(2), 118 + 11);
        due("58 rules, one", alike(58, 25, 25, twoPairs).best(1), 116 + 11);
        due("58 rules, two", alike(58, 25, 25, twoPairs).best(2), 116 + 10);
        int[] andOneRuled = {1, 2, 1, 2, 1, 2, 1, 2, 25, 25};
        due("the number, then the rule", alike(59, 25, 25, andOneRuled).best(2), 118 + 7);
    }

    @Says("each only if there is a number free or a RULE of it)")
    static void promise34_best_behindAChange() {
        PairPacker x = ofForm(1, 26, 2, 0, 1, 4, 0, 1, 0, 1);
        due("a rule of it", x.best(1), 4);
        x.drop(26);
        due("none any more", x.best(1), 4);
        due("size", x.count(3), 4);
        due("nor for two", x.best(2), 4);
        x.undo(1);
        due("a rule again", x.best(2), 4);
    }

    @Says("THE BEST of k. -3: k (0 to 2).")
    static void promise34_best_noSuchK() {
        for (int k : new int[] {-1, 3, MIN, MAX}) {
            refused("k " + k, Bench::busy, x -> x.best(k), -3);
        }
    }

    @Says("THE BEST of k.")
    static void promise34_best_changesNothing() {
        PairPacker x = busy();
        String before = all(x);
        x.best(2);
        x.best(1);
        dueText("all", all(x), before);
    }

    // ---- promise 35: bits

    @Says({"A FLOAT's bits.",
        "FLOATS (their bits as ints): 0: SIZE as a float divided by how many LETTERS there are as a float;"})
    static void promise35_bits_sizeByLetters() {
        PairPacker x = packed("abababab");
        due("6 by 8", x.bits(0), Float.floatToIntBits(0.75f));
        x.cut(0, 3);
        due("6 by 5", x.bits(0), Float.floatToIntBits(6f / 5f));
        due("7 by 7", of("abcdefg").bits(0), Float.floatToIntBits(1f));
        due("rules that aren't used", ofForm(1, 26, 12, 0, 0, 0, 0, 0, 0, 0, 0, 0, 0, 0, 0,
            1, 0).bits(0), Float.floatToIntBits(13f));
        due("33 by 240", ofForm(big(0)).bits(0), Float.floatToIntBits(33f / 240f));
    }

    @Says("1: the sum of DEPTHS of all LETTERS of THE TEXT (as a float) divided by how many there are;")
    static void promise35_bits_depthsByLetters() {
        due("two each", packed("abababab").bits(1), Float.floatToIntBits(2f));
        due("none", of("ab").bits(1), 0);
        due("5 by 6", ofForm(2, 26, 2, 0, 1, 27, 2, 26, 2, 4, 27, 3, 4, 5).bits(1),
            Float.floatToIntBits(5f / 6f));
        due("1890 by 61", deep(60).bits(1), Float.floatToIntBits((60f + 1830f) / 61f));
    }

    @Says({"2: from THE SEQUENCE's first SIGN on, f 0: f times 0.5f and the WORD's length as a float,"
        + " times 0.25f", "(all as floats, in this order: (f times 0.5f plus length) times 0.25f)."})
    static void promise35_bits_foldedLengths() {
        due("one letter", of("a").bits(2), Float.floatToIntBits(0.25f));
        due("two letters", of("ab").bits(2), Float.floatToIntBits(0.28125f));
        PairPacker x = ofForm(2, 26, 3, 0, 1, 0, 27, 2, 26, 26, 5, 27, 26, 2, 26, 27);
        float f = 0f;
        for (int length : new int[] {6, 3, 1, 3, 6}) {
            f = (f * 0.5f + (float) length) * 0.25f;
        }
        due("from the first on", x.bits(2), Float.floatToIntBits(f));
        f = 0f;
        for (int i = 0; i < 240; i++) {
            f = (f * 0.5f + 1f) * 0.25f;
        }
        due("240 letters", of("a".repeat(240)).bits(2), Float.floatToIntBits(f));
    }

    @Says("0f without LETTERS.")
    static void promise35_bits_withoutLetters() {
        for (int what = 0; what <= 2; what++) {
            due("of a new object, what " + what, new PairPacker().bits(what), 0);
            due("of rules alone, what " + what, ofForm(1, 26, 2, 0, 0, 0).bits(what), 0);
        }
    }

    @Says("-2147483648: another what.")
    static void promise35_bits_anotherWhat() {
        for (int what : new int[] {-1, 3, MIN, MAX}) {
            refused("what " + what, Bench::busy, x -> x.bits(what), -2147483648);
            due("without letters, what " + what, new PairPacker().bits(what), -2147483648);
        }
    }

    // ---- promise 36: form

    @Says({"Byte i of THE FORM.",
        "how many RULES there are; of each its SIGN, the length of its ROW, the ROW;",
        "how many SIGNS THE SEQUENCE has; these."})
    static void promise36_form_bytes() {
        int[] given = {2, 26, 3, 0, 1, 25, 85, 2, 26, 26, 3, 85, 26, 5};
        PairPacker x = ofForm(given);
        for (int i = 0; i < given.length; i++) {
            due("byte " + i, x.form(i), given[i]);
        }
        due("behind the last", x.form(given.length), NONE);
    }

    @Says("RULES in this order: always the least one not told yet whose ROW has LETTERS and RULES told"
        + " ahead alone.")
    static void promise36_form_order() {
        int[] given = {4, 60, 2, 0, 0, 40, 2, 1, 1, 30, 2, 60, 1, 26, 2, 40, 30, 1, 26};
        int[] due = {4, 40, 2, 1, 1, 60, 2, 0, 0, 30, 2, 60, 1, 26, 2, 40, 30, 1, 26};
        PairPacker x = ofForm(given);
        for (int i = 0; i < due.length; i++) {
            due("byte " + i, x.form(i), due[i]);
        }
        // 27 can be told as soon as 28 is: ahead of 29
        int[] back = {3, 28, 2, 0, 0, 29, 2, 1, 1, 27, 2, 28, 28, 1, 27};
        int[] dueBack = {3, 28, 2, 0, 0, 27, 2, 28, 28, 29, 2, 1, 1, 1, 27};
        x = ofForm(back);
        for (int i = 0; i < dueBack.length; i++) {
            due("byte " + i + " of the other", x.form(i), dueBack[i]);
        }
    }

    @Says("Byte i of THE FORM.")
    static void promise36_form_canBeLoaded() {
        PairPacker x = packed("abcabcabdabdabcabc");
        int[] bytes = new int[x.count(9)];
        for (int i = 0; i < bytes.length; i++) {
            bytes[i] = x.form(i);
        }
        PairPacker other = ofForm(bytes);
        dueText("the text", letters(other), "abcabcabdabdabcabc");
        dueText("the sequence", sequence(other), sequence(x));
        due("size", other.count(3), x.count(3));
    }

    @Says("Byte i of THE FORM.")
    static void promise36_form_longerThanTheTape() {
        PairPacker x = full(0);
        due("bytes", x.count(9), 243);
        text(x, "a".repeat(240));
        due("240 signs", x.form(1), 240);
        due("the last", x.form(241), 0);
        due("behind it", x.form(242), NONE);
        longRows();
    }

    /** 59 rows of 12 signs each, a pair, and 240 signs: the longest form there can be nearly. */
    private static void longRows() {
        int[] bytes = new int[2 + 8 + 59 * 4];
        int[] head = {60, 26, 6, 0, 1, 2, 3, 4, 5};
        System.arraycopy(head, 0, bytes, 0, head.length);
        for (int i = 0; i < 59; i++) {
            bytes[9 + 4 * i] = 27 + i;
            bytes[10 + 4 * i] = 2;
            bytes[11 + 4 * i] = 26;
            bytes[12 + 4 * i] = 26;
        }
        PairPacker x = ofForm(bytes);
        due("59 long rows", x.drop(26), 59 * 12);
        for (int i = 0; i < 240; i++) {
            x.insert(0, 25);
        }
        x.put(0, 24);
        due("bytes", x.count(9), 2 + 59 * 14 + 240);
        due("the first sign", x.form(2 + 59 * 14), 24);
        due("the last sign", x.form(2 + 59 * 14 + 239), 25);
        due("behind it", x.form(2 + 59 * 14 + 240), NONE);
    }

    @Says("NONE: not so many; -3: i is below 0.")
    static void promise36_form_notSoMany() {
        due("of nothing, the first", new PairPacker().form(0), 0);
        due("of nothing, the last", new PairPacker().form(1), 0);
        due("of nothing, behind", new PairPacker().form(2), NONE);
        due("far off", of("ab").form(MAX), NONE);
    }

    @Says("NONE: not so many; -3: i is below 0.")
    static void promise36_form_belowZero() {
        refused("-1", Bench::busy, x -> x.form(-1), -3);
        due("the least int", of("ab").form(MIN), -3);
    }

    // ---- promise 37: code

    private static void dueCodes(String letters, int... lengthsAndCodes) {
        PairPacker x = of(letters);
        for (int i = 0; 2 * i < lengthsAndCodes.length; i++) {
            due("length of " + i + " in " + letters, x.code(i, 0), lengthsAndCodes[2 * i]);
            due("code of " + i + " in " + letters, x.code(i, 1), lengthsAndCodes[2 * i + 1]);
        }
    }

    @Says({"Of a SIGN, what 0: its LENGTH",
        "CODES: each SIGN of THE SEQUENCE has a WEIGHT, how often it is there.",
        "They are put together two by two: always those two of the least WEIGHT",
        "what comes has both WEIGHTS together.", "LENGTH of a SIGN: how often it was put together"})
    static void promise37_code_lengths() {
        dueCodes("ab", 1, 0, 1, 1);
        dueCodes("aaaabbc", 1, 0, 2, 2, 2, 3);
        dueCodes("aaaabbcd", 1, 0, 2, 2, 3, 6, 3, 7);
        dueCodes("abcd", 2, 0, 2, 1, 2, 2, 2, 3);
        // weights 1 1 2 3 5 8: each is put to all that is lighter
        dueCodes("abccdddeeeeeffffffff", 5, 30, 5, 31, 4, 14, 3, 6, 2, 2, 1, 0);
    }

    @Says("(of like ones that which has the least SIGN in it first)")
    static void promise37_code_ofLikeOnesTheLeastSign() {
        dueCodes("abccdddd", 3, 6, 3, 7, 2, 2, 1, 0);
        dueCodes("abccdd", 3, 6, 3, 7, 2, 2, 1, 0);
        dueCodes("aabbcd", 2, 0, 2, 1, 2, 2, 2, 3);
        dueCodes("abc", 2, 2, 2, 3, 1, 0);
        dueCodes("aabcde", 2, 0, 3, 6, 3, 7, 2, 1, 2, 2);
    }

    @Says("(1, if it is the only one)")
    static void promise37_code_theOnlyOne() {
        PairPacker x = of("zzz");
        due("its length", x.code(25, 0), 1);
        due("its code", x.code(25, 1), 0);
        x = ofForm(1, 85, 2, 0, 1, 1, 85);
        due("a rule's length", x.code(85, 0), 1);
        due("a rule's code", x.code(85, 1), 0);
    }

    @Says({"1: its CODE (NONE: it isn't).", "(0: it isn't in THE SEQUENCE)"})
    static void promise37_code_notInTheSequence() {
        PairPacker x = ofForm(2, 26, 2, 0, 1, 27, 2, 26, 26, 1, 27);
        due("in a row alone, length", x.code(26, 0), 0);
        due("in a row alone, code", x.code(26, 1), NONE);
        due("a letter of its word, length", x.code(0, 0), 0);
        due("a letter of its word, code", x.code(0, 1), NONE);
        due("of none, length", new PairPacker().code(0, 0), 0);
        due("of none, code", new PairPacker().code(0, 1), NONE);
    }

    @Says({"The CODE of a SIGN: SIGNS by LENGTH, of like ones by number: the first one 0;",
        "each next one the one ahead and 1, times 2 for each by which its LENGTH is more."})
    static void promise37_code_numbered() {
        PairPacker x = ofForm(1, 85, 2, 0, 1, 11, 85, 85, 85, 85, 3, 3, 25, 25, 2, 9, 9);
        int[] signs = {85, 2, 3, 9, 25};
        int[] lengths = {1, 3, 3, 3, 3};
        int[] codes = {0, 4, 5, 6, 7};
        for (int i = 0; i < signs.length; i++) {
            due("length of " + signs[i], x.code(signs[i], 0), lengths[i]);
            due("code of " + signs[i], x.code(signs[i], 1), codes[i]);
        }
        dueCodes("aaaaaaaabcde", 1, 0, 3, 4, 3, 5, 3, 6, 3, 7);
    }

    @Says("-2: there is none such, what.")
    static void promise37_code_noneSuch() {
        for (int sign : new int[] {-1, 30, 85, 86, MIN, MAX}) {
            refused("sign " + sign, Bench::busy, x -> x.code(sign, 0), -2);
            due("its code " + sign, of("ab").code(sign, 1), -2);
        }
        for (int what : new int[] {-1, 2, MIN, MAX}) {
            refused("what " + what, Bench::busy, x -> x.code(0, what), -2);
        }
    }

    // ---- promise 38: coded

    @Says({"The SIGN that is i-th by CODES' order.", "SIGNS by LENGTH, of like ones by number"})
    static void promise38_coded_order() {
        PairPacker x = of("zzzzbbac");
        due("the shortest", x.coded(0), 25);
        due("then", x.coded(1), 1);
        due("of like ones the least", x.coded(2), 0);
        due("the last", x.coded(3), 2);
        x = ofForm(1, 26, 2, 0, 1, 3, 26, 25, 26);
        due("a letter ahead of a rule", x.coded(0), 25);
        due("the rule", x.coded(1), 26);
    }

    @Says("NONE: not so many; -3: i is below 0.")
    static void promise38_coded_notSoMany() {
        due("the only one", of("zzz").coded(0), 25);
        due("behind it", of("zzz").coded(1), NONE);
        due("far off", of("zzz").coded(MAX), NONE);
        due("of none", new PairPacker().coded(0), NONE);
    }

    @Says("NONE: not so many; -3: i is below 0.")
    static void promise38_coded_belowZero() {
        refused("-1", Bench::busy, x -> x.coded(-1), -3);
        due("the least int", of("ab").coded(MIN), -3);
    }
}
