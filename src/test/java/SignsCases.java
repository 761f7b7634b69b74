/** Promises 16 to 20: what there is of signs, rules, words and pairs. */
final class SignsCases extends Bench {
    // ---- promise 16: sign

    @Says({"The i-th SIGN of THE SEQUENCE.",
        "The k-th, the i-th of whatever: from 0 on, where it isn't told otherwise."})
    static void promise16_sign_fromZeroOn() {
        PairPacker x = ofForm(1, 85, 2, 0, 1, 3, 25, 85, 0);
        due("the first", x.sign(0), 25);
        due("a rule's", x.sign(1), 85);
        due("the last", x.sign(2), 0);
    }

    @Says("NONE: not so many; -3: i is below 0.")
    static void promise16_sign_notSoMany() {
        PairPacker x = of("zaz");
        x.cut(2, 1);
        due("behind the last", x.sign(2), NONE);
        due("far off", x.sign(MAX), NONE);
        due("of none", new PairPacker().sign(0), NONE);
        x = of("a".repeat(240));
        due("the last of 240", x.sign(239), 0);
        due("behind 240", x.sign(240), NONE);
    }

    @Says("NONE: not so many; -3: i is below 0.")
    static void promise16_sign_belowZero() {
        refused("-1", Bench::busy, x -> x.sign(-1), -3);
        due("the least int", of("a").sign(MIN), -3);
    }

    // ---- promise 17: rule

    @Says("Of a SIGN, what 0: the length of its ROW (a LETTER: 0)")
    static void promise17_rule_lengthOfItsRow() {
        PairPacker x = ofForm(2, 26, 2, 0, 1, 27, 12, 0, 0, 0, 0, 0, 0, 0, 0, 0, 0, 0, 9, 0);
        due("two", x.rule(26, 0), 2);
        due("twelve", x.rule(27, 0), 12);
        due("a letter", x.rule(0, 0), 0);
        due("a letter that isn't there", x.rule(25, 0), 0);
    }

    @Says({"1: of its WORD",
        "The WORD of a SIGN: the LETTER, or the WORDS of its ROW, one behind the other."})
    static void promise17_rule_lengthOfItsWord() {
        PairPacker x = packed("abababab");
        due("two rows", x.rule(27, 1), 4);
        due("one row", x.rule(26, 1), 2);
        due("a letter", x.rule(25, 1), 1);
        due("a letter of a new object", new PairPacker().rule(0, 1), 1);
        due("sixty rows", deep(60).rule(85, 1), 61);
        due("240", ofForm(3, 26, 12, 0, 0, 0, 0, 0, 0, 0, 0, 0, 0, 0, 0,
            27, 12, 26, 26, 26, 26, 26, 26, 26, 26, 26, 26, 26, 26,
            28, 9, 27, 26, 26, 26, 26, 26, 26, 26, 26, 1, 28).rule(28, 1), 240);
    }

    @Says({"2: DEPTH", "DEPTH of a SIGN: the greatest of its WORD within it (a LETTER's 0)."})
    static void promise17_rule_depth() {
        PairPacker x = ofForm(4, 26, 2, 0, 1, 27, 3, 0, 26, 0, 28, 2, 27, 0, 29, 2, 0, 28, 1, 0);
        due("a letter", x.rule(0, 2), 0);
        due("letters alone", x.rule(26, 2), 1);
        due("the greatest is in the middle", x.rule(27, 2), 2);
        due("the greatest is the first", x.rule(28, 2), 3);
        due("the greatest is the last", x.rule(29, 2), 4);
        due("sixty rows", deep(60).rule(85, 2), 60);
    }

    @Says({"3: USES", "USES of a SIGN: how often it is in THE SEQUENCE and in ROWS of RULES."})
    static void promise17_rule_uses() {
        PairPacker x = ofForm(3, 26, 2, 0, 0, 27, 3, 26, 0, 26, 28, 2, 3, 3, 4, 26, 27, 0, 0);
        due("in the sequence and in rows", x.rule(26, 3), 3);
        due("in the sequence", x.rule(27, 3), 1);
        due("a letter", x.rule(0, 3), 5);
        due("nowhere", x.rule(28, 3), 0);
        due("in a row of a rule that isn't used", x.rule(3, 3), 2);
        due("a letter that isn't there", x.rule(25, 3), 0);
    }

    @Says("4: how often it is in THE SEQUENCE")
    static void promise17_rule_howOftenInTheSequence() {
        PairPacker x = ofForm(2, 26, 2, 0, 0, 27, 2, 26, 0, 5, 26, 27, 0, 0, 26);
        due("a rule", x.rule(26, 4), 2);
        due("another", x.rule(27, 4), 1);
        due("a letter", x.rule(0, 4), 2);
        due("none", x.rule(1, 4), 0);
    }

    @Says({"5: how many HITS of the PHRASE are WITHIN it", "Those WITHIN a SIGN: in its WORD."})
    static void promise17_rule_hitsWithin() {
        PairPacker x = ofForm(2, 26, 3, 0, 0, 0, 27, 2, 26, 26, 3, 27, 26, 0);
        due("no phrase", x.rule(27, 5), 0);
        seek(x, "aa");
        due("they overlap, and cross signs of the row", x.rule(27, 5), 5);
        due("in one row", x.rule(26, 5), 2);
        due("in a letter", x.rule(0, 5), 0);
        seek(x, "a");
        due("one letter in a letter", x.rule(0, 5), 1);
        due("in another letter", x.rule(1, 5), 0);
        seek(x, "aaaaaa");
        due("all of a word", x.rule(27, 5), 1);
        due("longer than a word", x.rule(26, 5), 0);
    }

    @Says("10 to 21: the SIGNS of its ROW (NONE: not so many).")
    static void promise17_rule_signsOfItsRow() {
        PairPacker x = ofForm(2, 26, 12, 0, 1, 2, 3, 4, 5, 6, 7, 8, 9, 10, 11, 27, 2, 26, 25, 1, 27);
        for (int i = 0; i < 12; i++) {
            due("the " + i + "-th", x.rule(26, 10 + i), i);
        }
        due("a rule's sign", x.rule(27, 10), 26);
        due("a letter's sign", x.rule(27, 11), 25);
        due("not so many", x.rule(27, 12), NONE);
        due("not twelve", x.rule(27, 21), NONE);
        due("of a letter", x.rule(0, 10), NONE);
        due("of a letter, the last", x.rule(25, 21), NONE);
    }

    @Says("-2: there is none such, what.")
    static void promise17_rule_noneSuch() {
        for (int sign : new int[] {-1, 30, 85, 86, MIN, MAX}) {
            refused("sign " + sign, Bench::busy, x -> x.rule(sign, 0), -2);
        }
        PairPacker x = packed("abababab");
        x.drop(26);
        due("one that was dropped", x.rule(26, 0), -2);
    }

    @Says("-2: there is none such, what.")
    static void promise17_rule_noSuchWhat() {
        for (int what : new int[] {-1, 6, 7, 8, 9, 22, 23, MIN, MAX}) {
            due("of a rule, what " + what, packed("abab").rule(26, what), -2);
            due("of a letter, what " + what, of("abab").rule(0, what), -2);
        }
        refused("what 22", Bench::busy, x -> x.rule(26, 22), -2);
    }

    // ---- promise 18: word

    @Says({"LETTER i of the WORD of a SIGN.",
        "The WORD of a SIGN: the LETTER, or the WORDS of its ROW, one behind the other."})
    static void promise18_word_letters() {
        PairPacker x = ofForm(3, 26, 2, 0, 1, 27, 3, 2, 26, 3, 28, 2, 27, 26, 0);
        int[] want = {2, 0, 1, 3, 0, 1};
        for (int i = 0; i < want.length; i++) {
            due("letter " + i, x.word(28, i), want[i]);
        }
        due("of a letter", x.word(25, 0), 25);
        due("of a letter of a new object", new PairPacker().word(25, 0), 25);
        due("sixty rows down", deep(60).word(85, 0), 0);
        due("the last of those", deep(60).word(85, 60), 0);
    }

    @Says("NONE: not so many; -2; -3: i is below 0.")
    static void promise18_word_notSoMany() {
        PairPacker x = packed("abababab");
        due("the last", x.word(27, 3), 1);
        due("behind it", x.word(27, 4), NONE);
        due("far off", x.word(27, MAX), NONE);
        due("a letter has one", x.word(25, 1), NONE);
    }

    @Says("NONE: not so many; -2; -3: i is below 0.")
    static void promise18_word_noneSuch() {
        for (int sign : new int[] {-1, 30, 85, 86, MIN, MAX}) {
            refused("sign " + sign, Bench::busy, x -> x.word(sign, 0), -2);
        }
    }

    @Says("NONE: not so many; -2; -3: i is below 0.")
    static void promise18_word_belowZero() {
        refused("-1", Bench::busy, x -> x.word(26, -1), -3);
        due("the least int", of("a").word(0, MIN), -3);
    }

    @Says("(Of several that which the call tells first; all these ahead of NONE.)")
    static void promise18_word_ofSeveralTheFirst() {
        due("none such, below 0", of("a").word(26, -1), -2);
    }

    // ---- promise 19: pairs

    @Says({"COUNT of a pair.",
        "COUNT of a pair (two SIGNS side by side in THE SEQUENCE): how often it stands there,"
            + " gone through from the left",
        "an occurrence that shares a SIGN with the one counted ahead not counted."})
    static void promise19_pairs_runs() {
        int[] want = {0, 0, 1, 1, 2, 2, 3, 3};
        for (int n = 0; n < want.length; n++) {
            due(n + " of them", of("a".repeat(n)).pairs(0, 0), want[n]);
        }
        due("two runs", of("aaabaaa").pairs(0, 0), 2);
        due("240", of("a".repeat(240)).pairs(0, 0), 120);
    }

    @Says("(two SIGNS side by side in THE SEQUENCE)")
    static void promise19_pairs_inTheSequenceAlone() {
        PairPacker x = ofForm(1, 26, 3, 0, 1, 0, 6, 0, 1, 26, 1, 0, 1);
        due("not in rows", x.pairs(0, 1), 2);
        due("not in words", x.pairs(1, 0), 1);
        due("a letter and a rule", x.pairs(1, 26), 1);
        due("a rule and a letter", x.pairs(26, 1), 1);
        due("none of them", x.pairs(26, 26), 0);
        due("of signs that aren't there", x.pairs(25, 24), 0);
    }

    @Says("COUNT of a pair. -2.")
    static void promise19_pairs_noSign() {
        for (int sign : new int[] {-1, 30, 85, 86, MIN, MAX}) {
            refused("left " + sign, Bench::busy, x -> x.pairs(sign, 0), -2);
            refused("right " + sign, Bench::busy, x -> x.pairs(0, sign), -2);
        }
        due("letters always are", new PairPacker().pairs(0, 25), 0);
    }

    // ---- promise 20: pick

    @Says({"The pair that is i-th by PICK's order",
        "100 times the first SIGN, and the second one.", "of like ones the least first SIGN",
        "then the least second one."})
    static void promise20_pick_order() {
        PairPacker x = of("babazczcbacacada");
        due("three times", x.pick(0), 100);
        due("twice, the least first sign", x.pick(1), 2);
        due("the next first sign", x.pick(2), 200);
        due("the last one", x.pick(3), 2502);
        x = of("adadbzbzacxac");
        due("the least second sign", x.pick(0), 2);
        due("the greater second sign", x.pick(1), 3);
        due("the greater first sign", x.pick(2), 125);
    }

    @Says("100 times the first SIGN, and the second one.")
    static void promise20_pick_signsOfRules() {
        PairPacker x = ofForm(1, 85, 2, 0, 1, 4, 85, 85, 85, 85);
        due("85 and 85", x.pick(0), 8585);
        due("0 and 0", of("aaaa").pick(0), 0);
    }

    @Says({"(of COUNT 2 and more)", "NONE: not so many; -3: i is below 0."})
    static void promise20_pick_ofCountTwoAndMore() {
        PairPacker x = of("abab");
        due("ab", x.pick(0), 1);
        due("ba comes once", x.pick(1), NONE);
        for (int i = 1; i < 12; i++) {
            due("one pick of many pairs, " + i, of("ababcdefghi").pick(i), NONE);
        }
        due("far off", x.pick(MAX), NONE);
        due("three of a kind count once", of("aaa").pick(0), NONE);
        due("of none", new PairPacker().pick(0), NONE);
    }

    @Says("NONE: not so many; -3: i is below 0.")
    static void promise20_pick_belowZero() {
        refused("-1", Bench::busy, x -> x.pick(-1), -3);
        due("the least int", of("abab").pick(MIN), -3);
    }
}
