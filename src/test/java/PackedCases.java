/** Promises 7 to 12: pairs replaced, rules dropped, all of it unpacked. */
final class PackedCases extends Bench {
    // ---- promise 7: step

    @Says({"PICK is REPLACED: the SIGN.", "PICK: the pair of the greatest COUNT (2 at least)"})
    static void promise07_step_theGreatestCount() {
        PairPacker x = of("ababzyzyzy");
        due("zy comes three times", x.step(), 26);
        dueText("the sequence", sequence(x), "0 1 0 1 26 26 26");
        dueText("its row", row(x, 26), "25 24");
        due("rules", x.count(2), 1);
    }

    @Says("PICK: the pair of the greatest COUNT (2 at least)")
    static void promise07_step_twiceAtLeast() {
        PairPacker x = of("abxab");
        due("twice", x.step(), 26);
        dueText("the sequence", sequence(x), "26 23 26");
        x = of("abxa");
        due("once", x.step(), NONE);
        dueText("the sequence stays", sequence(x), "0 1 23 0");
    }

    @Says({"of like ones the least first SIGN", "then the least second one."})
    static void promise07_step_ofLikeOnesTheLeast() {
        PairPacker x = of("bcbcacxacadyad");
        due("the least first sign", x.step(), 26);
        dueText("then the least second one", row(x, 26), "0 2");
        due("then", x.step(), 27);
        dueText("the next", row(x, 27), "0 3");
        due("then the greater first sign", x.step(), 28);
        dueText("the last", row(x, 28), "1 2");
    }

    @Says("in THE SEQUENCE, from the left, each occurrence that is counted becomes that SIGN.")
    static void promise07_step_runsFromTheLeft() {
        PairPacker x = of("aaaaabaaa");
        x.step();
        dueText("not overlapping", sequence(x), "26 26 0 1 26 0");
    }

    @Says({"To REPLACE a pair: if there is a RULE whose ROW is just that pair its SIGN (the least)",
        "else a new RULE of it"})
    static void promise07_step_aRuleThatIsThere() {
        PairPacker x = ofForm(3, 26, 3, 0, 1, 1, 40, 2, 0, 1, 30, 2, 0, 1, 5, 0, 1, 2, 0, 1);
        due("the least of just the pair", x.step(), 30);
        due("no new one", x.count(2), 3);
        dueText("the sequence", sequence(x), "30 2 30");
    }

    @Says("a new one gets the least number that is free.")
    static void promise07_step_theLeastNumberThatIsFree() {
        PairPacker x = ofForm(2, 26, 2, 5, 5, 28, 2, 5, 5, 6, 0, 1, 0, 1, 0, 1);
        due("between them", x.step(), 27);
        due("behind them", x.replace(27, 27), 29);
        x.drop(26);
        due("one that was dropped", x.replace(29, 27), 26);
    }

    @Says({"a new one gets the least number that is free.", "RULES: SIGNS 26 to 85"})
    static void promise07_step_theLastNumber() {
        PairPacker x = alike(59, 25, 25, 0, 1, 0, 1, 2, 3, 2, 3);
        due("85", x.step(), 85);
        due("and no more", x.step(), -4);
    }

    @Says("NONE: there is none")
    static void promise07_step_none() {
        for (String letters : new String[] {"", "a", "ab", "abcba"}) {
            PairPacker x = of(letters);
            due("of '" + letters + "'", x.step(), NONE);
            due("no rule", x.count(2), 0);
        }
        due("of a new object", new PairPacker().step(), NONE);
        due("of all numbers taken", full(2, 3).step(), NONE);
    }

    @Says("step() but for NONE")
    static void promise07_step_noneIsNoCallToUndo() {
        PairPacker x = of("abab");
        x.step();
        due("none", x.step(), NONE);
        due("calls that can be undone", x.count(6), 2);
        x.undo(1);
        dueText("the one ahead is undone", sequence(x), "0 1 0 1");
    }

    @Says("-4: no number is free (and no RULE of it).")
    static void promise07_step_noNumberIsFree() {
        refused("no number", () -> full(2, 3, 2, 3), PairPacker::step, -4);
    }

    @Says("-4: no number is free (and no RULE of it).")
    static void promise07_step_aRuleOfItIsEnough() {
        PairPacker x = full(0, 1, 0, 1, 0, 0);
        due("the rule", x.step(), 27);
        dueText("the sequence", sequence(x), "27 27 0 0");
        due("rules", x.count(2), 60);
    }

    @Says({"-4: no number is free (and no RULE of it).", "PICK is REPLACED"})
    static void promise07_step_aRuleOfAnotherPairIsNot() {
        // bc is the pick, it has no rule; ab has one
        refused("the pick has none", () -> full(1, 2, 1, 2, 1, 2, 0, 1, 0, 1), PairPacker::step, -4);
    }

    // ---- promise 8: pack

    @Says("Likewise as long as there is a PICK")
    static void promise08_pack_asLongAsThereIsAPick() {
        PairPacker x = of("abababab");
        due("times", x.pack(), 2);
        dueText("the sequence", sequence(x), "27 27");
        due("no pick is left", x.pick(0), NONE);
    }

    @Says({"Likewise as long as there is a PICK", ": how many times."})
    static void promise08_pack_howManyTimes() {
        due("none", new PairPacker().pack(), 0);
        due("of ab", of("ab").pack(), 0);
        due("of aaaa", of("aaaa").pack(), 1);
        due("of 240", of("a".repeat(240)).pack(), 6);
        due("of ab and cd", of("ababcdcd").pack(), 2);
    }

    @Says("and a number free or a RULE of it")
    static void promise08_pack_tillNoNumberIsFree() {
        PairPacker x = alike(59, 25, 25, 0, 1, 0, 1, 2, 3, 2, 3);
        due("one number", x.pack(), 1);
        dueText("the sequence", sequence(x), "85 85 2 3 2 3");
        x = alike(58, 25, 25, 0, 1, 0, 1, 2, 3, 2, 3);
        due("two numbers", x.pack(), 2);
    }

    @Says("and a number free or a RULE of it")
    static void promise08_pack_byRulesThatAreThere() {
        PairPacker x = full(0, 0, 0, 0, 1, 2, 1, 2);
        due("aa has a rule, bc has none", x.pack(), 1);
        dueText("the sequence", sequence(x), "26 26 1 2 1 2");
        due("rules", x.count(2), 60);
    }

    @Says("and a number free or a RULE of it")
    static void promise08_pack_thePickItself() {
        PairPacker x = full(1, 2, 1, 2, 1, 2, 0, 0, 0, 0);
        due("bc has none, aa comes behind it", x.pack(), 0);
        dueText("the sequence", sequence(x), "1 2 1 2 1 2 0 0 0 0");
    }

    @Says({"not refused, also if nothing changes", "can be UNDONE each as a whole"})
    static void promise08_pack_undoneAsAWhole() {
        PairPacker x = of("abababab");
        x.pack();
        due("one call", x.count(6), 2);
        x.pack();
        due("also if nothing changes", x.count(6), 3);
        x.undo(2);
        dueText("as it was", sequence(x), "0 1 0 1 0 1 0 1");
        due("rules", x.count(2), 0);
    }

    // ---- promise 9: replace

    @Says("A pair is REPLACED: the SIGN.")
    static void promise09_replace_aPairThatComesOnce() {
        PairPacker x = of("abc");
        due("the sign", x.replace(1, 2), 26);
        dueText("the sequence", sequence(x), "0 26");
        dueText("the row", row(x, 26), "1 2");
        due("of a rule's sign", x.replace(0, 26), 27);
        dueText("one sign", sequence(x), "27");
    }

    @Says({"in THE SEQUENCE, from the left, each occurrence that is counted becomes that SIGN.",
        "A pair is REPLACED"})
    static void promise09_replace_inTheSequenceAlone() {
        PairPacker x = ofForm(1, 26, 3, 0, 1, 0, 6, 0, 1, 26, 0, 0, 1);
        due("the sign", x.replace(0, 1), 27);
        dueText("the sequence", sequence(x), "27 26 0 27");
        dueText("rows stay", row(x, 26), "0 1 0");
        x = of("aaaaa");
        x.replace(0, 0);
        dueText("a run", sequence(x), "26 26 0");
    }

    @Says({"if there is a RULE whose ROW is just that pair its SIGN (the least)", "A pair is REPLACED"})
    static void promise09_replace_theLeastRuleOfIt() {
        PairPacker x = ofForm(4, 26, 3, 0, 1, 1, 40, 2, 0, 1, 30, 2, 0, 1, 27, 2, 1, 0, 2, 0, 1);
        due("the sign", x.replace(0, 1), 30);
        due("rules", x.count(2), 4);
    }

    @Says({"-2: a SIGN (LETTERS, SIGNS of RULES);",
        "Refused calls answer by a code and change nothing: -2 there is none such;"})
    static void promise09_replace_noSign() {
        for (int sign : new int[] {-1, 30, 85, 86, MIN, MAX}) {
            refused("left " + sign, Bench::busy, x -> x.replace(sign, 0), -2);
            refused("right " + sign, Bench::busy, x -> x.replace(0, sign), -2);
        }
    }

    @Says("-2: a SIGN (LETTERS, SIGNS of RULES);")
    static void promise09_replace_signsOfRules() {
        PairPacker x = ofForm(2, 26, 2, 0, 0, 85, 2, 1, 1, 3, 85, 26, 25);
        due("the greatest and the least", x.replace(85, 26), 27);
        due("a letter", x.replace(27, 25), 28);
    }

    @Says({"-5: it doesn't stand there;", "-5 it can't be now;"})
    static void promise09_replace_notThere() {
        refused("never", Bench::busy, x -> x.replace(25, 25), -5);
        refused("in rows alone", Bench::busy, x -> x.replace(0, 1), -5);
        refused("the other way round", () -> of("ab"), x -> x.replace(1, 0), -5);
        due("without letters", new PairPacker().replace(0, 0), -5);
        due("one alone", of("a").replace(0, 0), -5);
    }

    @Says("-5: it doesn't stand there;")
    static void promise09_replace_notThereAnyMore() {
        PairPacker x = of("abab");
        x.replace(0, 1);
        due("behind it", x.replace(0, 1), -5);
    }

    @Says({"-4: no number is free (and no RULE of it).", "-4 too many;"})
    static void promise09_replace_noNumberIsFree() {
        refused("no number", () -> full(2, 3), x -> x.replace(2, 3), -4);
        PairPacker x = full(0, 1, 2);
        due("a rule of it", x.replace(0, 1), 27);
        due("none of this one", x.replace(27, 2), -4);
    }

    @Says("(Of several that which the call tells first; all these ahead of NONE.)")
    static void promise09_replace_ofSeveralTheFirst() {
        due("no sign, and not there", full(2, 3).replace(3, 86), -2);
        due("not there, and no number", full(2, 3).replace(3, 2), -5);
    }

    // ---- promise 10: drop

    @Says({"A RULE is DROPPED: SIZE then.", 
        "To DROP a RULE: its ROW stands wherever its SIGN stood (THE SEQUENCE, ROWS of others);"})
    static void promise10_drop_whereverItStood() {
        PairPacker x = ofForm(3, 26, 2, 0, 1, 27, 3, 26, 2, 26, 28, 2, 3, 3, 4, 26, 27, 26, 28);
        due("size", x.drop(26), 13);
        dueText("in the sequence", sequence(x), "0 1 27 0 1 28");
        dueText("in a row, twice", row(x, 27), "0 1 2 0 1");
        dueText("not in another one", row(x, 28), "3 3");
        due("gone", x.rule(26, 0), -2);
        due("size is told", x.count(3), 6 + 5 + 2);
        dueText("the text", letters(x), "ababcababdd");
    }

    @Says("its ROW stands wherever its SIGN stood (THE SEQUENCE, ROWS of others);")
    static void promise10_drop_inRowsOfLesserAndGreaterSigns() {
        PairPacker x = ofForm(3, 50, 2, 0, 1, 26, 2, 50, 2, 85, 3, 3, 50, 50, 2, 26, 85);
        due("size", x.drop(50), 10);
        dueText("in the least one", row(x, 26), "0 1 2");
        dueText("in the greatest one", row(x, 85), "3 0 1 0 1");
        dueText("the sequence", sequence(x), "26 85");
    }

    @Says("its ROW stands wherever its SIGN stood (THE SEQUENCE, ROWS of others);")
    static void promise10_drop_askedAheadAndBehind() {
        PairPacker x = packed("abababab");
        due("depth ahead", x.within(1, 2), 2);
        x.drop(26);
        due("depth behind", x.within(1, 2), 1);
        due("depth of the rule", x.rule(27, 2), 1);
        x.drop(27);
        due("no depth", x.within(1, 2), 0);
    }

    @Says("A RULE is DROPPED: SIZE then.")
    static void promise10_drop_oneThatIsNotUsed() {
        PairPacker x = ofForm(1, 26, 3, 0, 1, 2, 2, 4, 5);
        due("size", x.drop(26), 2);
        dueText("the sequence", sequence(x), "4 5");
        due("the number is free", x.count(8), 26);
    }

    @Says("-2: there is none such")
    static void promise10_drop_noneSuch() {
        for (int sign : new int[] {-1, 0, 25, 30, 85, 86, MIN, MAX}) {
            refused("sign " + sign, Bench::busy, x -> x.drop(sign), -2);
        }
        due("of a new object", new PairPacker().drop(26), -2);
    }

    @Says({"it can't, if a ROW would have more than 12.", "A RULE is DROPPED"})
    static void promise10_drop_aRowOf12() {
        PairPacker x = ofForm(2, 26, 7, 0, 0, 0, 0, 0, 0, 0, 27, 6, 26, 1, 1, 1, 1, 1, 1, 27);
        due("size", x.drop(26), 13);
        dueText("12 signs", row(x, 27), "0 0 0 0 0 0 0 1 1 1 1 1");
    }

    @Says({"-5: it can't be.", "it can't, if a ROW would have more than 12."})
    static void promise10_drop_aRowOf13() {
        refused("the row of a greater sign",
            () -> ofForm(2, 26, 7, 0, 0, 0, 0, 0, 0, 0, 27, 7, 26, 1, 1, 1, 1, 1, 1, 1, 27),
            x -> x.drop(26), -5);
        refused("the row of a lesser one",
            () -> ofForm(2, 27, 7, 0, 0, 0, 0, 0, 0, 0, 26, 7, 27, 1, 1, 1, 1, 1, 1, 1, 26),
            x -> x.drop(27), -5);
        refused("the row of the last one",
            () -> ofForm(2, 26, 7, 0, 0, 0, 0, 0, 0, 0, 85, 7, 26, 1, 1, 1, 1, 1, 1, 1, 85),
            x -> x.drop(26), -5);
        refused("twice in a row",
            () -> ofForm(2, 26, 3, 0, 0, 0, 27, 9, 26, 26, 1, 1, 1, 1, 1, 1, 1, 1, 27),
            x -> x.drop(26), -5);
    }

    @Says("-5: it can't be.")
    static void promise10_drop_rowsAloneHinderIt() {
        PairPacker x = ofForm(1, 26, 12, 0, 0, 0, 0, 0, 0, 0, 0, 0, 0, 0, 0, 3, 26, 26, 26);
        due("36 in the sequence", x.drop(26), 36);
        x = ofForm(2, 26, 7, 0, 0, 0, 0, 0, 0, 0, 27, 7, 26, 1, 1, 1, 1, 1, 1, 1, 27);
        due("the rule with the long row", x.drop(27), 14);
    }

    // ---- promise 11: trim

    @Says("TRIMMED: how many RULES were DROPPED.")
    static void promise11_trim_howMany() {
        PairPacker x = of("abcabc");
        x.step();
        x.step();
        due("26 is used once", x.trim(), 1);
        dueText("the sequence", sequence(x), "27 27");
        dueText("its row", row(x, 27), "0 1 2");
        due("no rules, none", new PairPacker().trim(), 0);
    }

    @Says("To TRIM: as long as some RULE has USES 0")
    static void promise11_trim_usesZero() {
        PairPacker x = ofForm(2, 26, 2, 0, 0, 85, 12, 1, 1, 1, 1, 1, 1, 1, 1, 1, 1, 1, 1, 2, 2, 2);
        due("both", x.trim(), 2);
        due("rules", x.count(2), 0);
        dueText("the sequence", sequence(x), "2 2");
    }

    @Says("or USES 1 and can be DROPPED")
    static void promise11_trim_usesOne() {
        PairPacker x = ofForm(2, 26, 2, 0, 0, 27, 2, 1, 1, 3, 26, 27, 27);
        due("once in the sequence", x.trim(), 1);
        dueText("the sequence", sequence(x), "0 0 27 27");
        x = ofForm(2, 26, 2, 0, 0, 27, 2, 26, 1, 2, 27, 27);
        due("once in a row", x.trim(), 1);
        dueText("the row", row(x, 27), "0 0 1");
    }

    @Says("or USES 1 and can be DROPPED")
    static void promise11_trim_usesTwoStay() {
        PairPacker x = ofForm(3, 26, 2, 0, 0, 27, 2, 26, 1, 28, 2, 2, 2, 6, 27, 27, 26, 3, 28, 28);
        due("in a row and in the sequence; in the sequence; there too", x.trim(), 0);
        due("rules", x.count(2), 3);
        x = ofForm(2, 26, 2, 0, 0, 27, 2, 26, 26, 2, 27, 27);
        due("twice in one row", x.trim(), 0);
    }

    @Says("or USES 1 and can be DROPPED")
    static void promise11_trim_usesOneThatCannotBe() {
        PairPacker x = ofForm(2, 26, 8, 0, 0, 0, 0, 0, 0, 0, 0, 27, 6, 26, 1, 1, 1, 1, 1, 2, 27, 27);
        due("a row of 13", x.trim(), 0);
        due("it stays", x.rule(26, 0), 8);
        x = ofForm(2, 26, 8, 0, 0, 0, 0, 0, 0, 0, 0, 27, 5, 26, 1, 1, 1, 1, 2, 27, 27);
        due("a row of 12", x.trim(), 1);
        due("its length", x.rule(27, 0), 12);
    }

    @Says("the least such one is DROPPED.")
    static void promise11_trim_theLeastFirst() {
        PairPacker x = ofForm(3, 26, 7, 0, 0, 0, 0, 0, 0, 0, 28, 2, 1, 1,
            27, 6, 26, 28, 2, 2, 2, 2, 2, 27, 27);
        due("26 goes, then 28 can't", x.trim(), 1);
        due("26", x.rule(26, 0), -2);
        due("28", x.rule(28, 0), 2);
    }

    @Says("the least such one is DROPPED.")
    static void promise11_trim_usesZeroDoesNotComeFirst() {
        // 28 is used once, 29 isn't: were 29 dropped first, 26 would be used once, too, and go
        PairPacker x = ofForm(4, 26, 7, 0, 0, 0, 0, 0, 0, 0, 28, 7, 1, 1, 1, 1, 1, 1, 1,
            27, 6, 26, 28, 2, 2, 2, 2, 29, 2, 26, 2, 2, 27, 27);
        due("28, then 29", x.trim(), 2);
        due("26 stays", x.rule(26, 0), 7);
        due("28 is gone", x.rule(28, 0), -2);
        dueText("where it went", row(x, 27), "26 1 1 1 1 1 1 1 2 2 2 2");
    }

    @Says("To TRIM: as long as some RULE has USES 0")
    static void promise11_trim_asLongAsThereIsOne() {
        // each is used by the next one alone: the last has no use, and behind it each one ahead
        PairPacker x = ofForm(4, 29, 7, 0, 0, 0, 0, 0, 0, 0, 28, 7, 29, 1, 1, 1, 1, 1, 1,
            27, 7, 28, 1, 1, 1, 1, 1, 1, 26, 7, 27, 1, 1, 1, 1, 1, 1, 0);
        due("one behind the other", x.trim(), 4);
        x = full(1);
        due("all 60", x.trim(), 60);
        due("rules", x.count(2), 0);
    }

    @Says({"not refused, also if nothing changes", "can be UNDONE each as a whole"})
    static void promise11_trim_undoneAsAWhole() {
        PairPacker x = ofForm(2, 26, 2, 0, 0, 27, 2, 26, 1, 1, 27);
        due("both", x.trim(), 2);
        due("nothing", x.trim(), 0);
        due("calls", x.count(6), 3);
        x.undo(2);
        due("rules", x.count(2), 2);
        dueText("the sequence", sequence(x), "27");
    }

    // ---- promise 12: unpack

    @Says({"THE SEQUENCE is all LETTERS, there are no RULES: how many LETTERS.",
        "THE TEXT: the WORDS of THE SEQUENCE"})
    static void promise12_unpack_allLetters() {
        PairPacker x = packed("abcabcabcd");
        due("letters", x.unpack(), 10);
        dueText("the sequence", sequence(x), "0 1 2 0 1 2 0 1 2 3");
        due("rules", x.count(2), 0);
    }

    @Says("THE SEQUENCE is all LETTERS, there are no RULES: how many LETTERS.")
    static void promise12_unpack_rulesThatAreNotUsed() {
        PairPacker x = ofForm(2, 26, 2, 0, 0, 85, 2, 1, 1, 1, 2);
        due("letters", x.unpack(), 1);
        due("rules", x.count(2), 0);
        due("without letters", new PairPacker().unpack(), 0);
    }

    @Says({"THE SEQUENCE is all LETTERS, there are no RULES: how many LETTERS.",
        "THE SEQUENCE: a row of SIGNS, 240 at most."})
    static void promise12_unpack_240() {
        PairPacker x = packed("a".repeat(240));
        due("letters", x.unpack(), 240);
        due("signs", x.count(1), 240);
        x = ofForm(big(0));
        due("of a form", x.unpack(), 240);
        due("its last", x.sign(239), 0);
    }

    @Says({"not refused, also if nothing changes", "can be UNDONE each as a whole"})
    static void promise12_unpack_canBeUndone() {
        PairPacker x = packed("abababab");
        x.unpack();
        x.unpack();
        due("also if nothing changes", x.count(6), 4);
        x.undo(2);
        dueText("packed again", sequence(x), "27 27");
        due("rules", x.count(2), 2);
    }
}
