/** Promises 1 to 6: what is fed, and taken for a text, a phrase, a form. */
final class TextsCases extends Bench {
    // ---- promise 1: a new object

    @Says("No LETTERS")
    static void promise01_new_noLetters() {
        PairPacker x = new PairPacker();
        due("letters", x.count(0), 0);
        due("signs", x.count(1), 0);
        due("the first letter", x.at(0), NONE);
        due("the first sign", x.sign(0), NONE);
    }

    @Says("no RULES.")
    static void promise01_new_noRules() {
        PairPacker x = new PairPacker();
        due("rules", x.count(2), 0);
        due("size", x.count(3), 0);
        due("the least number free", x.count(8), 26);
        for (int sign = 26; sign <= 85; sign++) {
            due("rule " + sign, x.rule(sign, 0), -2);
        }
    }

    @Says("(none at first)")
    static void promise01_new_noImageNothingToUndo() {
        PairPacker x = new PairPacker();
        due("image 0", x.restore(0), -6);
        due("image 1", x.restore(1), -6);
        due("calls that can be undone", x.count(6), 0);
        due("undo", x.undo(1), -3);
    }

    @Says("LETTERS a to z are SIGNS 0 to 25.")
    static void promise01_terms_lettersAreSigns0To25() {
        PairPacker x = of("az");
        due("a", x.sign(0), 0);
        due("z", x.sign(1), 25);
        due("a's word", x.word(0, 0), 0);
        due("z's word", x.word(25, 0), 25);
    }

    @Says("The constants: `NONE = -1`: There is none.")
    static void promise01_face_none() {
        due("NONE", PairPacker.NONE, -1);
    }

    @Says("An object is used for at most 512 calls after it has been made; what later calls answer is free.")
    static void promise01_new_512Calls() {
        PairPacker x = new PairPacker();
        x.feed(0x61626162, 0x61626162, 0, 0, 0);
        x.text(8);
        for (int i = 0; i < 254; i++) {
            due("insert " + i, x.insert(8, 25), 9);
            due("cut " + i, x.cut(8, 1), 8);
        }
        due("call 511", x.pack(), 2);
        due("call 512", x.count(3), 6);
    }

    // ---- promise 2: feed

    @Says("Twenty bytes come behind those on THE TAPE")
    static void promise02_feed_behindThoseOnTheTape() {
        PairPacker x = new PairPacker();
        x.feed(0x61616161, 0x61616161, 0x61616161, 0x61616161, 0x61616162);
        x.feed(0x63646464, 0x64646464, 0x64646464, 0x64646464, 0x64646465);
        due("forty", x.text(40), 40);
        dueText("in order", letters(x), "aaaaaaaaaaaaaaaaaaabcdddddddddddddddddde");
    }

    @Says("the highest of each int first")
    static void promise02_feed_theHighestOfEachIntFirst() {
        PairPacker x = new PairPacker();
        x.feed(0x61626364, 0x65666768, 0x696a6b6c, 0x6d6e6f70, 0x71727374);
        x.text(20);
        dueText("in order", letters(x), "abcdefghijklmnopqrst");
    }

    @Says("the highest of each int first")
    static void promise02_feed_bytesAbove127() {
        PairPacker x = new PairPacker();
        x.feed(0x00018055, 0x02000000, 0x1a000000, 0, 0);
        due("0 rules, 1 sign, the byte 128", x.load(3), -33);
        x.feed(0x0001ff00, 0, 0, 0, 0);
        due("the byte 255", x.load(3), -33);
        x.feed(0xff000000, 0, 0, 0, 0);
        due("255 rules", x.load(1), -32);
        x.feed(0x6161ff61, MIN, MAX, -1, 0);
        due("the byte 255 is no letter", x.text(4), -31);
        due("its place", x.fault(1), 2);
    }

    @Says("how many it has.")
    static void promise02_feed_howManyItHas() {
        PairPacker x = new PairPacker();
        for (int i = 1; i <= 13; i++) {
            due("feed " + i, x.feed(i, i, i, i, i), 20 * i);
        }
        x.text(0);
        due("again from none", x.feed(0, 0, 0, 0, 0), 20);
    }

    @Says("-4: it would have more than 260.")
    static void promise02_feed_260AreTaken() {
        PairPacker x = new PairPacker();
        for (int i = 1; i <= 12; i++) {
            x.feed(0, 0, 0, 0, 0);
        }
        due("the thirteenth", x.feed(0, 0, 0, 0, 0), 260);
    }

    @Says("-4: it would have more than 260.")
    static void promise02_feed_moreThan260() {
        PairPacker x = new PairPacker();
        feedText(x, "a".repeat(260));
        due("the fourteenth", x.feed(0x62626262, 0, 0, 0, 0), -4);
        due("as many as were", x.count(5), 260);
        due("and no fault", x.fault(0), 0);
        due("the text", x.text(240), 240);
        due("as it was fed", x.ahead(0, 240), 240);
    }

    // ---- promise 3: text

    @Says("The first n bytes of THE TAPE")
    static void promise03_text_theFirstBytesAlone() {
        PairPacker x = new PairPacker();
        feedText(x, "abc?");
        due("three", x.text(3), 3);
        dueText("these", letters(x), "abc");
    }

    @Says("(which is empty then)")
    static void promise03_text_theTapeIsEmptyThen() {
        PairPacker x = new PairPacker();
        feedText(x, "abcd");
        x.text(2);
        due("bytes on the tape", x.count(5), 0);
        due("no more of it", x.text(1), -3);
    }

    @Says("are THE TEXT, LETTERS alone")
    static void promise03_text_lettersAlone() {
        PairPacker x = packed("abababab");
        text(x, "ababab");
        dueText("the sequence", sequence(x), "0 1 0 1 0 1");
    }

    @Says("there are no RULES: n.")
    static void promise03_text_noRules() {
        PairPacker x = packed("abababab");
        due("n", text(x, "ababab"), 6);
        due("rules", x.count(2), 0);
        due("26", x.rule(26, 0), -2);
        due("27", x.rule(27, 0), -2);
    }

    @Says("there are no RULES: n.")
    static void promise03_text_ofNoByte() {
        PairPacker x = packed("abababab");
        feedText(x, "abc");
        due("none of many", x.text(0), 0);
        due("no letters", x.count(0), 0);
        due("no rules", x.count(2), 0);
        due("the tape is empty", x.count(5), 0);
        due("none of none", x.text(0), 0);
    }

    @Says("-3: n is below 0")
    static void promise03_text_belowZero() {
        refused("-1", Bench::busy, x -> x.text(-1), -3);
        refused("the least int", Bench::busy, x -> x.text(MIN), -3);
    }

    @Says({"above what there is (THE TAPE stays);", "-3: n is below 0"})
    static void promise03_text_aboveWhatThereIs() {
        refused("21 of 20", Bench::busy, x -> x.text(21), -3);
        refused("far above", Bench::busy, x -> x.text(MAX), -3);
        due("1 of none", new PairPacker().text(1), -3);
        due("241 of none", new PairPacker().text(241), -3);
    }

    @Says("above what there is (THE TAPE stays);")
    static void promise03_text_asManyAsThereAre() {
        PairPacker x = new PairPacker();
        feedText(x, "abcdefghijklmnopqrst");
        x.text(21);
        x.text(-1);
        due("the tape stays", x.count(5), 20);
        due("20 of 20", x.text(20), 20);
        dueText("as it was", letters(x), "abcdefghijklmnopqrst");
    }

    @Says({"-4: n is above 240", "it never has more than 240 LETTERS"})
    static void promise03_text_240() {
        PairPacker x = new PairPacker();
        feedText(x, "y".repeat(260));
        due("240", x.text(240), 240);
        due("letters", x.count(0), 240);
        due("the last", x.at(239), 24);
        due("behind it", x.at(240), NONE);
    }

    @Says("-4: n is above 240")
    static void promise03_text_above240() {
        for (int n : new int[] {241, 260}) {
            PairPacker x = packed("abababab");
            String before = sequence(x);
            feedText(x, "y".repeat(260));
            due(n + " letters", x.text(n), -4);
            dueText("the text stays", sequence(x), before);
            due("the rules stay", x.count(2), 2);
            due("it can't be undone", x.count(6), 2);
        }
    }

    @Says("(THE TAPE is empty then; fault() tells 0 and NONE from then on)")
    static void promise03_text_above240_theTapeAndTheFault() {
        PairPacker x = new PairPacker();
        text(x, "ab?");
        feedText(x, "?".repeat(260));
        due("241 that are no letters", x.text(241), -4);
        due("the tape is empty", x.count(5), 0);
        due("no fault", x.fault(0), 0);
        due("no place", x.fault(1), NONE);
    }

    @Says("FAULTS 1: a byte that is no LETTER (its place).")
    static void promise03_text_noLetter() {
        for (int odd : new int[] {0, 1, 25, 26, 'A', 'Z', 'a' - 1, 'z' + 1, 128, 255}) {
            PairPacker x = new PairPacker();
            feedBytes(x, 'z', 'a', odd, 'b');
            due("the byte " + odd, x.text(4), -31);
            due("its fault", x.fault(0), 1);
            due("its place", x.fault(1), 2);
        }
    }

    @Says("FAULTS 1: a byte that is no LETTER (its place).")
    static void promise03_text_noLetter_theFirstOfThem() {
        PairPacker x = new PairPacker();
        text(x, "?a?");
        due("at 0", x.fault(1), 0);
        feedText(x, "aaa??");
        x.text(5);
        due("at 3", x.fault(1), 3);
        feedText(x, "y".repeat(239) + "?");
        due("the last of 240", x.text(240), -31);
        due("at 239", x.fault(1), 239);
        feedText(x, "aa?");
        due("behind those that are taken", x.text(2), 2);
    }

    @Says("-30 less the FAULT: a text (THE TAPE is empty then; nothing else changes).")
    static void promise03_text_noLetter_nothingElseChanges() {
        PairPacker x = packed("abababab");
        x.image(0);
        seek(x, "ba");
        due("a fault", text(x, "ab?"), -31);
        due("the tape is empty", x.count(5), 0);
        dueText("the sequence", sequence(x), "27 27");
        due("rules", x.count(2), 2);
        due("the phrase", x.hits(2), 2);
        due("calls that can be undone", x.count(6), 2);
        x.undo(2);
        due("the image", x.restore(0), 0);
        dueText("is as it was", sequence(x), "27 27");
    }

    // ---- promise 4: phrase

    @Says("They are the PHRASE: how many HITS.")
    static void promise04_phrase_howManyHits() {
        PairPacker x = packed("aabaabaab");
        feedText(x, "aab???");
        due("the first three", x.phrase(3), 3);
        due("its letters", x.hits(2), 3);
        due("the tape is empty", x.count(5), 0);
        due("another one", seek(x, "ba"), 2);
        due("one that isn't there", seek(x, "bb"), 0);
        due("it is the phrase, too", x.hits(2), 2);
    }

    @Says("also if they overlap.")
    static void promise04_phrase_hitsOverlap() {
        PairPacker x = of("aaaaa");
        due("aa", seek(x, "aa"), 4);
        due("aaaaa", seek(x, "aaaaa"), 1);
        due("longer than the text", seek(x, "aaaaaa"), 0);
    }

    @Says("They are the PHRASE: how many HITS.")
    static void promise04_phrase_withoutLetters() {
        due("nowhere", seek(new PairPacker(), "a"), 0);
    }

    @Says("-3 likewise;")
    static void promise04_phrase_belowZeroAboveWhatThereIs() {
        refused("-1", Bench::busy, x -> x.phrase(-1), -3);
        refused("the least int", Bench::busy, x -> x.phrase(MIN), -3);
        refused("21 of 20", Bench::busy, x -> x.phrase(21), -3);
        refused("far above", Bench::busy, x -> x.phrase(MAX), -3);
        due("1 of none", new PairPacker().phrase(1), -3);
    }

    @Says("-4: n is 0, above 20")
    static void promise04_phrase_ofNoLetter() {
        PairPacker x = of("abab");
        seek(x, "ab");
        feedText(x, "abc");
        due("0", x.phrase(0), -4);
        due("the phrase stays", x.hits(2), 2);
        due("0 of none", new PairPacker().phrase(0), -4);
    }

    @Says({"-4: n is 0, above 20", "A PHRASE (1 to 20 LETTERS)"})
    static void promise04_phrase_above20() {
        PairPacker x = of("a".repeat(30));
        feedText(x, "a".repeat(40));
        due("20", x.phrase(20), 11);
        feedText(x, "a".repeat(40));
        due("21", x.phrase(21), -4);
        due("20 letters yet", x.hits(2), 20);
        feedText(x, "a".repeat(260));
        due("260", x.phrase(260), -4);
        due("1", seek(x, "a"), 30);
    }

    @Says("(THE TAPE is empty then; fault() tells 0 and NONE from then on)")
    static void promise04_phrase_refused_theTapeAndTheFault() {
        for (int n : new int[] {0, 21}) {
            PairPacker x = new PairPacker();
            text(x, "ab?");
            feedText(x, "?".repeat(40));
            due(n + " letters", x.phrase(n), -4);
            due("the tape is empty", x.count(5), 0);
            due("no fault", x.fault(0), 0);
            due("no place", x.fault(1), NONE);
        }
    }

    @Says("a FAULT likewise.")
    static void promise04_phrase_noLetter() {
        PairPacker x = of("abab");
        seek(x, "ab");
        for (int odd : new int[] {0, 'a' - 1, 'z' + 1, 255}) {
            feedBytes(x, 'a', odd);
            due("the byte " + odd, x.phrase(2), -31);
            due("its fault", x.fault(0), 1);
            due("its place", x.fault(1), 1);
            due("the tape is empty", x.count(5), 0);
            due("the phrase stays", x.hits(2), 2);
            due("its hits stay", x.hits(0), 2);
        }
        feedText(x, "ab?");
        due("behind those that are taken", x.phrase(2), 2);
    }

    @Says("They are the PHRASE: how many HITS.")
    static void promise04_phrase_isNoCallToUndo() {
        PairPacker x = of("abab");
        seek(x, "ab");
        due("calls that can be undone", x.count(6), 1);
        text(x, "ababab");
        due("it stays with another text", x.hits(0), 3);
    }

    // ---- promise 6: fault

    @Says({"Of the latest text(), phrase(), load()", "what 0: its FAULT (0), 1: its place (NONE)."})
    static void promise06_fault_ofTheLatest() {
        PairPacker x = new PairPacker();
        due("of a new object", x.fault(0), 0);
        due("its place", x.fault(1), NONE);
        text(x, "ab?");
        due("text", 10 * x.fault(0) + x.fault(1), 12);
        load(x, 0, 1, 26);
        due("load", 10 * x.fault(0) + x.fault(1), 32);
        seek(x, "a?");
        due("phrase", 10 * x.fault(0) + x.fault(1), 11);
    }

    @Says("what 0: its FAULT (0), 1: its place (NONE).")
    static void promise06_fault_noneBehindOneThatIsTaken() {
        for (int i = 0; i < 3; i++) {
            PairPacker x = new PairPacker();
            text(x, "ab?");
            if (i == 0) {
                text(x, "ab");
            } else if (i == 1) {
                seek(x, "ab");
            } else {
                load(x, 0, 1, 0);
            }
            due("fault", x.fault(0), 0);
            due("place", x.fault(1), NONE);
        }
    }

    @Says("that emptied THE TAPE")
    static void promise06_fault_oneThatLeavesTheTape() {
        PairPacker x = new PairPacker();
        text(x, "ab?");
        feedText(x, "ab");
        x.text(21);
        x.phrase(21);
        x.load(21);
        x.text(-1);
        due("fault", x.fault(0), 1);
        due("place", x.fault(1), 2);
    }

    @Says("(be it of no byte)")
    static void promise06_fault_ofNoByte() {
        PairPacker x = new PairPacker();
        due("a load of no byte", x.load(0), -31);
        due("its fault", x.fault(0), 1);
        due("its place", x.fault(1), 0);
        due("a text of no byte", x.text(0), 0);
        due("no fault", x.fault(0), 0);
        due("no place", x.fault(1), NONE);
        x.load(0);
        due("a phrase of no byte", x.phrase(0), -4);
        due("no fault of it", x.fault(0), 0);
        due("no place of it", x.fault(1), NONE);
    }

    @Says("NONE for others.")
    static void promise06_fault_others() {
        PairPacker x = new PairPacker();
        text(x, "ab?");
        for (int what : new int[] {-1, 2, 3, MIN, MAX}) {
            due("what " + what, x.fault(what), NONE);
        }
    }

    @Says("Of the latest text(), phrase(), load()")
    static void promise06_fault_otherCallsLeaveIt() {
        PairPacker x = of("abababab");
        x.image(0);
        text(x, "ab?");
        x.step();
        x.pack();
        x.trim();
        x.insert(0, 1);
        x.undo(1);
        x.unpack();
        x.restore(0);
        feedText(x, "a");
        due("fault", x.fault(0), 1);
        due("place", x.fault(1), 2);
    }
}
