/** Promises 31 and 32: where the phrase is found, and how often. */
final class PhraseCases extends Bench {
    // ---- promise 31: hit

    @Says({"The place of the i-th HIT of the PHRASE in THE TEXT.",
        "HITS are places of THE TEXT at which it begins"})
    static void promise31_hit_fromTheLeft() {
        PairPacker x = packed("abcabdabcab");
        seek(x, "ab");
        due("the first", x.hit(0), 0);
        due("the second", x.hit(1), 3);
        due("the third", x.hit(2), 6);
        due("at the end", x.hit(3), 9);
        due("behind it", x.hit(4), NONE);
    }

    @Says({"also if they overlap.", "The place of the i-th HIT"})
    static void promise31_hit_overlapping() {
        PairPacker x = of("aaaab");
        seek(x, "aa");
        due("the first", x.hit(0), 0);
        due("the second", x.hit(1), 1);
        due("the third", x.hit(2), 2);
        due("no more", x.hit(3), NONE);
        text(x, "baa");
        due("asked first of another text", x.hit(0), 1);
    }

    @Says({"NONE: not so many;", "HITS are places of THE TEXT at which it begins"})
    static void promise31_hit_notSoMany() {
        PairPacker x = of("abab");
        seek(x, "abc");
        due("the end cuts it off", x.hit(0), NONE);
        due("far off", x.hit(MAX), NONE);
        seek(x, "abab");
        due("all of the text", x.hit(0), 0);
        due("once", x.hit(1), NONE);
        seek(x, "ababa");
        due("longer than the text", x.hit(0), NONE);
        x = new PairPacker();
        seek(x, "a");
        due("without letters", x.hit(0), NONE);
    }

    @Says("-3: i is below 0;")
    static void promise31_hit_belowZero() {
        refused("-1", Bench::busy, x -> x.hit(-1), -3);
        PairPacker x = of("abab");
        seek(x, "ab");
        due("the least int", x.hit(MIN), -3);
    }

    @Says("-5: there is no PHRASE.")
    static void promise31_hit_noPhrase() {
        refused("none was told", () -> of("abab"), x -> x.hit(0), -5);
        PairPacker x = of("abab");
        seek(x, "a?");
        due("none was taken", x.hit(0), -5);
        x.phrase(0);
        due("nor of no letter", x.hit(0), -5);
        due("of a new object", new PairPacker().hit(0), -5);
    }

    @Says("(Of several that which the call tells first; all these ahead of NONE.)")
    static void promise31_hit_ofSeveralTheFirst() {
        due("below 0, no phrase", of("abab").hit(-1), -3);
        due("no phrase, not so many", of("abab").hit(99), -5);
    }

    // ---- promise 32: hits

    @Says("HITS (what 0)")
    static void promise32_hits_all() {
        PairPacker x = packed("aaabaaa");
        seek(x, "aa");
        due("they overlap", x.hits(0), 4);
        seek(x, "baaa");
        due("at the end", x.hits(0), 1);
        seek(x, "baaaa");
        due("over the end", x.hits(0), 0);
    }

    @Says({"CROSSING ones (1)", "CROSSING ones: whose LETTERS are of more than one SIGN of THE SEQUENCE."})
    static void promise32_hits_crossing() {
        PairPacker x = ofForm(2, 26, 2, 0, 1, 27, 2, 26, 26, 4, 27, 27, 0, 1);
        seek(x, "ab");
        due("two of each word, one of two letters", x.hits(0), 5);
        due("between two letters", x.hits(1), 1);
        seek(x, "ba");
        due("within", x.rule(27, 5), 1);
        due("between rules, a rule and a letter", x.hits(1), 2);
        seek(x, "babababa");
        due("over three signs", x.hits(1), 1);
        seek(x, "abab");
        due("from begin to end of a word", x.hits(0), 4);
        due("across", x.hits(1), 2);
        text(x, "zabab");
        due("asked first of another text", x.hits(1), 1);
    }

    @Says("CROSSING ones (1)")
    static void promise32_hits_oneLetterNeverCrosses() {
        PairPacker x = of("aaaa");
        seek(x, "a");
        due("all", x.hits(0), 4);
        due("crossing", x.hits(1), 0);
        x = of("aa");
        seek(x, "aa");
        due("two signs", x.hits(1), 1);
        x.replace(0, 0);
        due("one sign", x.hits(1), 0);
    }

    @Says("LETTERS of the PHRASE (2; 0: none).")
    static void promise32_hits_lettersOfThePhrase() {
        PairPacker x = of("abab");
        due("none", x.hits(2), 0);
        seek(x, "a");
        due("one", x.hits(2), 1);
        seek(x, "a".repeat(20));
        due("twenty", x.hits(2), 20);
    }

    @Says("-2; -5: there is no PHRASE (but 2).")
    static void promise32_hits_anotherWhat() {
        for (int what : new int[] {-1, 3, MIN, MAX}) {
            refused("what " + what, Bench::busy, x -> x.hits(what), -2);
            due("without a phrase, what " + what, of("abab").hits(what), -2);
        }
    }

    @Says("-2; -5: there is no PHRASE (but 2).")
    static void promise32_hits_noPhrase() {
        refused("all", () -> of("abab"), x -> x.hits(0), -5);
        refused("crossing", () -> of("abab"), x -> x.hits(1), -5);
        due("its letters", of("abab").hits(2), 0);
    }

    @Says("HITS (what 0)")
    static void promise32_hits_ofTheTextAsItIs() {
        PairPacker x = packed("abababab");
        seek(x, "ab");
        due("four", x.hits(0), 4);
        x.put(1, 0);
        due("put", x.hits(0), 3);
        x.insert(8, 0);
        x.insert(9, 1);
        due("inserted", x.hits(0), 4);
        x.cut(4, 2);
        due("cut", x.hits(0), 3);
        x.undo(4);
        due("undone", x.hits(0), 4);
        x.unpack();
        due("unpacked", x.hits(1), 4);
        text(x, "b");
        due("another text", x.hits(0), 0);
    }
}
