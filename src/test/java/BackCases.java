/** Promises 39 to 42: calls undone, images made and gone back to, what is counted. */
final class BackCases extends Bench {
    // ---- promise 39: undo

    @Says({"n calls (1 to 10) are UNDONE: how many still can be.", "the latest first"})
    static void promise39_undo_theLatestFirst() {
        PairPacker x = of("ab");
        x.insert(2, 2);
        x.insert(3, 3);
        due("one", x.undo(1), 2);
        dueText("the latest", letters(x), "abc");
        due("one more", x.undo(1), 1);
        dueText("the one ahead", letters(x), "ab");
        due("the last", x.undo(1), 0);
        dueText("none is left", letters(x), "");
    }

    @Says("n calls (1 to 10) are UNDONE: how many still can be.")
    static void promise39_undo_severalAtOnce() {
        PairPacker x = of("a");
        for (int i = 1; i <= 9; i++) {
            x.insert(i, i);
        }
        due("three", x.undo(3), 7);
        dueText("letters", letters(x), "abcdefg");
        x.insert(7, 25);
        due("two, one of them new", x.undo(2), 6);
        dueText("letters again", letters(x), "abcdef");
        due("the rest", x.undo(6), 0);
        due("letters left", x.count(0), 0);
    }

    @Says("10 at most (eldest are forgotten)")
    static void promise39_undo_tenAtMost() {
        PairPacker x = of("a");
        for (int i = 1; i <= 9; i++) {
            x.insert(i, i);
            due("calls", x.count(6), i + 1);
        }
        x.insert(10, 10);
        due("ten yet", x.count(6), 10);
        due("ten undone", x.undo(10), 0);
        dueText("the eldest is forgotten", letters(x), "a");
    }

    @Says("10 at most (eldest are forgotten)")
    static void promise39_undo_theEldestAreForgotten() {
        PairPacker x = of("a");
        for (int i = 1; i <= 24; i++) {
            x.insert(i, i);
        }
        due("four", x.undo(4), 6);
        dueText("letters", letters(x), "abcdefghijklmnopqrstu");
        for (int i = 0; i < 7; i++) {
            x.insert(0, 25);
        }
        due("ten", x.undo(10), 0);
        dueText("three of the elder ones", letters(x), "abcdefghijklmnopqr");
    }

    @Says("-3: n, more than can be.")
    static void promise39_undo_moreThanCanBe() {
        refused("five of four", Bench::busy, x -> x.undo(x.count(6) + 1), -3);
        refused("eleven", Bench::busy, x -> x.undo(11), -3);
        refused("far more", Bench::busy, x -> x.undo(MAX), -3);
        due("one of none", new PairPacker().undo(1), -3);
        PairPacker x = new PairPacker();
        for (int i = 0; i < 12; i++) {
            x.pack();
        }
        due("eleven of ten", x.undo(11), -3);
        due("ten of ten", x.undo(10), 0);
    }

    @Says("-3: n, more than can be.")
    static void promise39_undo_belowOne() {
        for (int n : new int[] {0, -1, MIN}) {
            refused("n " + n, Bench::busy, x -> x.undo(n), -3);
        }
    }

    @Says({"Calls that told THE TEXT, THE SEQUENCE, RULES (text(), load(), step() but for NONE, pack(),"
        + " replace(), drop(), trim(), unpack(), put(), cut(), insert();", "can be UNDONE each as a whole"})
    static void promise39_undo_whichCallsCanBe() {
        PairPacker x = new PairPacker();
        text(x, "ababcdcd");
        due("text", x.count(6), 1);
        x.step();
        due("step", x.count(6), 2);
        x.replace(2, 3);
        due("replace", x.count(6), 3);
        x.pack();
        due("pack", x.count(6), 4);
        x.drop(26);
        due("drop", x.count(6), 5);
        x.trim();
        due("trim", x.count(6), 6);
        x.put(0, 5);
        due("put", x.count(6), 7);
        x.cut(0, 1);
        due("cut", x.count(6), 8);
        x.insert(0, 5);
        due("insert", x.count(6), 9);
        x.unpack();
        due("unpack", x.count(6), 10);
        x.undo(5);
        load(x, 0, 1, 0);
        due("load", x.count(6), 6);
    }

    @Says("can be UNDONE each as a whole")
    static void promise39_undo_eachAsAWhole() {
        String[] before = new String[10];
        PairPacker x = new PairPacker();
        before[0] = packing(x);
        text(x, "ababcdcdcdab");
        before[1] = packing(x);
        x.step();
        before[2] = packing(x);
        x.pack();
        before[3] = packing(x);
        x.replace(26, 27);
        before[4] = packing(x);
        x.put(5, 7);
        before[5] = packing(x);
        x.trim();
        before[6] = packing(x);
        x.cut(2, 2);
        before[7] = packing(x);
        x.unpack();
        before[8] = packing(x);
        load(x, 1, 85, 2, 0, 1, 2, 85, 85);
        before[9] = packing(x);
        x.drop(85);
        for (int i = 9; i >= 0; i--) {
            due("undo", x.undo(1), i);
            dueText("behind " + i, packing(x), before[i]);
        }
    }

    private static String packing(PairPacker x) {
        StringBuilder told = new StringBuilder();
        int bytes = x.count(9);
        for (int i = 0; i < bytes; i++) {
            told.append(x.form(i)).append(' ');
        }
        return told.toString();
    }

    @Says("not refused, also if nothing changes")
    static void promise39_undo_alsoIfNothingChanges() {
        PairPacker x = of("ab");
        text(x, "ab");
        due("the same text", x.count(6), 2);
        load(x, 0, 2, 0, 1);
        due("the same form", x.count(6), 3);
        x.pack();
        due("pack", x.count(6), 4);
        x.trim();
        due("trim", x.count(6), 5);
        x.unpack();
        due("unpack", x.count(6), 6);
        x.put(0, 0);
        due("put", x.count(6), 7);
    }

    @Says("not refused, also if nothing changes")
    static void promise39_undo_refusedCallsAreNotAmongThem() {
        PairPacker x = of("abab");
        text(x, "a?");
        load(x, 9);
        x.text(1);
        x.load(1);
        x.replace(25, 25);
        x.replace(26, 0);
        x.drop(26);
        x.put(9, 0);
        x.put(0, 26);
        x.cut(0, 0);
        x.cut(0, 9);
        x.insert(9, 0);
        x.insert(0, 26);
        x.undo(2);
        x.restore(0);
        due("calls", x.count(6), 1);
        x.undo(1);
        due("the text is undone", x.count(0), 0);
    }

    @Says("Calls that told THE TEXT, THE SEQUENCE, RULES")
    static void promise39_undo_otherCallsAreNotAmongThem() {
        PairPacker x = of("abab");
        seek(x, "ab");
        x.image(0);
        x.best(2);
        x.form(0);
        x.code(0, 0);
        x.repeat();
        x.pick(0);
        x.fault(0);
        feedText(x, "a");
        due("calls", x.count(6), 1);
        x.pack();
        x.undo(1);
        due("nor is undo itself", x.count(6), 1);
    }

    @Says("all but THE TAPE, the FAULT, the PHRASE.")
    static void promise39_undo_allButTapeFaultPhrase() {
        PairPacker x = of("abab");
        x.pack();
        seek(x, "ba");
        text(x, "abc?");
        feedText(x, "xyz");
        x.undo(2);
        due("letters", x.count(0), 0);
        due("rules", x.count(2), 0);
        due("the tape stays", x.count(5), 20);
        due("the fault stays", x.fault(0), 1);
        due("its place stays", x.fault(1), 3);
        due("the phrase stays", x.hits(2), 2);
        due("its bytes stay", x.text(3), 3);
        dueText("as they were fed", letters(x), "xyz");
    }

    // ---- promise 40: image

    @Says("An IMAGE is made: 0. -2.")
    static void promise40_image_made() {
        PairPacker x = of("abab");
        due("the first", x.image(0), 0);
        due("the second", x.image(1), 0);
        due("made anew", x.image(0), 0);
        due("calls that can be undone", x.count(6), 1);
    }

    @Says("An IMAGE is made: 0. -2.")
    static void promise40_image_madeAnew() {
        PairPacker x = of("abab");
        x.image(0);
        x.insert(4, 25);
        x.image(0);
        x.cut(0, 1);
        x.restore(0);
        dueText("the later one", letters(x), "ababz");
    }

    @Says({"An IMAGE is made: 0. -2.", "IMAGES 0 to 1: the same (none at first)"})
    static void promise40_image_noneSuch() {
        for (int i : new int[] {-1, 2, 3, MIN, MAX}) {
            refused("image " + i, Bench::busy, x -> x.image(i), -2);
        }
    }

    @Says("IMAGES 0 to 1: the same (none at first)")
    static void promise40_image_oneIsNotTheOther() {
        PairPacker x = of("a");
        x.image(0);
        x.insert(1, 1);
        x.image(1);
        x.insert(2, 2);
        x.restore(0);
        dueText("the first", letters(x), "a");
        x.restore(1);
        dueText("the second", letters(x), "ab");
        x.restore(0);
        dueText("the first again", letters(x), "a");
    }

    // ---- promise 41: restore

    @Says({"All that is in an IMAGE is as it was: 0.", "IMAGES 0 to 1: the same (none at first)"})
    static void promise41_restore_asItWas() {
        PairPacker x = packed("abababab");
        x.image(1);
        text(x, "zyx");
        due("the answer", x.restore(1), 0);
        dueText("the sequence", sequence(x), "27 27");
        dueText("a rule", row(x, 27), "26 26");
        due("rules", x.count(2), 2);
        dueText("the text", letters(x), "abababab");
    }

    @Says("All that is in an IMAGE is as it was: 0.")
    static void promise41_restore_ofNothing() {
        PairPacker x = new PairPacker();
        x.image(0);
        text(x, "abab");
        x.pack();
        due("the answer", x.restore(0), 0);
        due("letters", x.count(0), 0);
        due("rules", x.count(2), 0);
    }

    @Says("All that is in an IMAGE is as it was: 0.")
    static void promise41_restore_theImageStays() {
        PairPacker x = packed("abababab");
        x.image(0);
        x.restore(0);
        x.put(0, 25);
        x.drop(26);
        x.unpack();
        x.restore(0);
        dueText("once more", sequence(x), "27 27");
        x.trim();
        x.undo(1);
        x.restore(0);
        dueText("behind an undo", sequence(x), "27 27");
        dueText("its rule", row(x, 26), "0 1");
    }

    @Says("All that is in an IMAGE is as it was: 0.")
    static void promise41_restore_anUndoLeavesImages() {
        PairPacker x = packed("abababab");
        x.image(1);
        due("all that can be", x.undo(2), 0);
        due("the image", x.restore(1), 0);
        dueText("is as it was", sequence(x), "27 27");
    }

    @Says("nothing can be UNDONE behind.")
    static void promise41_restore_nothingCanBeUndone() {
        PairPacker x = of("abab");
        x.image(0);
        x.pack();
        x.restore(0);
        due("calls", x.count(6), 0);
        due("undo", x.undo(1), -3);
        x.insert(0, 25);
        due("a new one can be", x.undo(1), 0);
        dueText("as it was restored", letters(x), "abab");
        due("no more", x.undo(1), -3);
    }

    @Says({"IMAGES 0 to 1: the same (none at first)", "all but THE TAPE, the FAULT, the PHRASE."})
    static void promise41_restore_allButTapeFaultPhrase() {
        PairPacker x = of("abab");
        seek(x, "ab");
        x.image(0);
        seek(x, "bab");
        text(x, "abc?");
        feedText(x, "xyz");
        x.restore(0);
        due("the tape stays", x.count(5), 20);
        due("the fault stays", x.fault(0), 1);
        due("its place stays", x.fault(1), 3);
        due("the phrase stays", x.hits(2), 3);
        due("its bytes stay", x.text(3), 3);
        dueText("as they were fed", letters(x), "xyz");
    }

    @Says("-2; -6: none was made.")
    static void promise41_restore_noneSuch() {
        for (int i : new int[] {-1, 2, 3, MIN, MAX}) {
            refused("image " + i, Bench::busy, x -> x.restore(i), -2);
        }
    }

    @Says({"-2; -6: none was made.", "-6 no IMAGE was made;"})
    static void promise41_restore_noneWasMade() {
        refused("the second", Bench::busy, x -> x.restore(1), -6);
        PairPacker x = of("abab");
        x.image(1);
        due("the first", x.restore(0), -6);
        due("calls can be undone yet", x.count(6), 1);
        due("the other one", x.restore(1), 0);
    }

    // ---- promise 42: count

    @Says({"0 LETTERS of THE TEXT, 1 SIGNS of THE SEQUENCE, 2 RULES, 3 SIZE",
        "SIZE: SIGNS of THE SEQUENCE and of all ROWS."})
    static void promise42_count_lettersSignsRulesSize() {
        PairPacker x = ofForm(3, 26, 2, 0, 1, 27, 3, 26, 26, 2, 50, 4, 5, 5, 5, 5, 4, 27, 26, 0, 0);
        due("letters", x.count(0), 9);
        due("signs", x.count(1), 4);
        due("rules", x.count(2), 3);
        due("size", x.count(3), 13);
    }

    @Says("4 the greatest DEPTH of a SIGN of THE SEQUENCE (0)")
    static void promise42_count_greatestDepth() {
        PairPacker x = ofForm(3, 26, 2, 0, 1, 27, 2, 26, 0, 28, 2, 27, 0, 3, 0, 27, 26);
        due("in the sequence", x.count(4), 2);
        due("letters alone", ofForm(1, 26, 2, 0, 1, 1, 0).count(4), 0);
        due("of none", new PairPacker().count(4), 0);
        due("rules alone", ofForm(1, 26, 2, 0, 1, 0).count(4), 0);
        due("sixty", deep(60).count(4), 60);
    }

    @Says("5 bytes on THE TAPE, 6 calls that can be UNDONE")
    static void promise42_count_bytesAndCalls() {
        PairPacker x = of("ab");
        feedText(x, "abcdefghijklmnopqrstuvwxyz");
        x.pack();
        due("bytes", x.count(5), 40);
        due("calls", x.count(6), 2);
    }

    @Says("7 unlike pairs that stand in THE SEQUENCE")
    static void promise42_count_unlikePairs() {
        due("ab and ba", of("ababab").count(7), 2);
        due("aa alone", of("aaaa").count(7), 1);
        due("aa, ab, bb", of("aaabbb").count(7), 3);
        due("one sign", of("a").count(7), 0);
        due("of none", new PairPacker().count(7), 0);
        due("of rules", ofForm(1, 26, 2, 0, 1, 3, 26, 26, 0).count(7), 2);
        PairPacker x = of("abab");
        x.pairs(0, 1);
        due("asked twice", x.count(7), x.count(7));
        x.cut(0, 4);
        due("cut", x.count(7), 0);
    }

    @Says("8 the least number that is free (NONE)")
    static void promise42_count_leastFreeNumber() {
        due("the first", new PairPacker().count(8), 26);
        due("one between", ofForm(2, 26, 2, 0, 0, 28, 2, 0, 0, 0).count(8), 27);
        due("ahead of one", ofForm(1, 27, 2, 0, 0, 0).count(8), 26);
        due("the last", alike(59, 0, 0).count(8), 85);
        due("none", full(0).count(8), NONE);
        PairPacker x = full(0);
        x.drop(40);
        due("one that was dropped", x.count(8), 40);
    }

    @Says("9 bytes of THE FORM")
    static void promise42_count_bytesOfTheForm() {
        due("of nothing", new PairPacker().count(9), 2);
        due("of letters", of("abc").count(9), 5);
        due("of a rule", ofForm(1, 26, 3, 0, 0, 0, 1, 0).count(9), 8);
        due("of sixty", full(0).count(9), 243);
    }

    @Says({"10 BITS", "BITS: LENGTHS of all SIGNS of THE SEQUENCE, each as often as it is there."})
    static void promise42_count_bits() {
        due("of none", new PairPacker().count(10), 0);
        due("of one", of("a").count(10), 1);
        due("of one alone, thrice", of("zzz").count(10), 3);
        due("4 1 2 2 1 2", of("aaaabbc").count(10), 4 + 4 + 2);
        due("of rules", ofForm(1, 26, 2, 0, 1, 3, 26, 26, 0).count(10), 3);
    }

    @Says("NONE for others.")
    static void promise42_count_others() {
        for (int what : new int[] {-1, 11, 12, MIN, MAX}) {
            due("what " + what, of("abab").count(what), NONE);
        }
    }
}
