/** Promises 13 to 15: letters put, cut, put in where they are packed. */
final class LettersCases extends Bench {
    /** The text "abababab" as 27 27, of 27 = 26 26 and 26 = ab. */
    private static PairPacker twice() {
        return packed("abababab");
    }

    // ---- promise 13: put

    @Says({"A place and the one behind it are OPENED;", "the LETTER there is another one: what it was."})
    static void promise13_put_within() {
        PairPacker x = twice();
        due("what it was", x.put(2, 25), 0);
        dueText("the sequence", sequence(x), "26 25 1 27");
        dueText("the text", letters(x), "abzbabab");
        due("rules stay", x.count(2), 2);
        dueText("a row stays", row(x, 26), "0 1");
    }

    @Says({"To OPEN a place (0 to how many LETTERS there are)",
        "A place and the one behind it are OPENED;"})
    static void promise13_put_theFirstAndTheLast() {
        PairPacker x = twice();
        due("the first", x.put(0, 25), 0);
        dueText("is opened behind it", sequence(x), "25 1 26 27");
        x = twice();
        due("the last", x.put(7, 25), 1);
        dueText("is opened ahead of it", sequence(x), "27 26 0 25");
    }

    @Says({"if it lies within the WORD of a SIGN of THE SEQUENCE (not at its begin)",
        "A place and the one behind it are OPENED;"})
    static void promise13_put_aLetterOfTheSequence() {
        PairPacker x = ofForm(1, 26, 2, 0, 1, 3, 26, 2, 26);
        due("between two signs", x.put(2, 25), 2);
        dueText("none is opened", sequence(x), "26 25 26");
    }

    @Says({"that SIGN becomes its ROW, and so on, till a SIGN begins there (or THE TEXT ends there).",
        "A place and the one behind it are OPENED;"})
    static void promise13_put_sixtyRowsDown() {
        PairPacker x = deep(60);
        due("the first", x.put(0, 3), 0);
        due("signs", x.count(1), 61);
        due("letters", x.count(0), 61);
        due("the letter", x.sign(0), 3);
        x = deep(60);
        due("the last", x.put(60, 3), 0);
        dueText("one row down", sequence(x), "84 3");
    }

    @Says("the LETTER there is another one: what it was.")
    static void promise13_put_theSameLetter() {
        PairPacker x = twice();
        due("what it was", x.put(7, 1), 1);
        dueText("opened all the same", sequence(x), "27 26 0 1");
        due("it can be undone", x.undo(1), 2);
        dueText("as it was", sequence(x), "27 27");
    }

    @Says("-2: the LETTER;")
    static void promise13_put_noLetter() {
        for (int letter : new int[] {-1, 26, 27, 86, MIN, MAX}) {
            refused("letter " + letter, Bench::busy, x -> x.put(0, letter), -2);
        }
        due("z is one", twice().put(0, 25), 0);
        due("a is one", twice().put(1, 0), 1);
    }

    @Says("-5: there is none at the place.")
    static void promise13_put_noneAtThePlace() {
        for (int place : new int[] {-1, 14, 15, 240, MIN, MAX}) {
            refused("place " + place, Bench::busy, x -> x.put(place, 0), -5);
        }
        due("of none", new PairPacker().put(0, 0), -5);
        due("the last of 240", of("a".repeat(240)).put(239, 1), 0);
        due("behind it", of("a".repeat(240)).put(240, 1), -5);
    }

    @Says("(Of several that which the call tells first; all these ahead of NONE.)")
    static void promise13_put_ofSeveralTheFirst() {
        due("no letter, no place", twice().put(8, 26), -2);
        due("no letter, below 0", twice().put(-1, -1), -2);
    }

    // ---- promise 14: cut

    @Says({"A place and the one n behind it are OPENED;",
        "n LETTERS (1 and more) between go: how many LETTERS are left."})
    static void promise14_cut_within() {
        PairPacker x = twice();
        due("left", x.cut(1, 2), 6);
        dueText("the sequence", sequence(x), "0 1 27");
        dueText("the text", letters(x), "ababab");
        due("rules stay", x.count(2), 2);
    }

    @Says("A place and the one n behind it are OPENED;")
    static void promise14_cut_wholeSigns() {
        PairPacker x = ofForm(1, 26, 2, 0, 1, 4, 26, 2, 26, 26);
        due("from a sign's begin to another's", x.cut(2, 3), 4);
        dueText("none is opened", sequence(x), "26 26");
    }

    @Says({"A place and the one n behind it are OPENED;", "(or THE TEXT ends there)"})
    static void promise14_cut_toTheEnd() {
        PairPacker x = twice();
        due("the last three", x.cut(5, 3), 5);
        dueText("opened at its begin", sequence(x), "27 0");
    }

    @Says("n LETTERS (1 and more) between go: how many LETTERS are left.")
    static void promise14_cut_oneAndAll() {
        PairPacker x = twice();
        due("one", x.cut(0, 1), 7);
        due("all", x.cut(0, 7), 0);
        due("no sign", x.count(1), 0);
        due("the rules stay", x.count(2), 2);
        due("all of 240", of("a".repeat(240)).cut(0, 240), 0);
    }

    @Says({"that SIGN becomes its ROW, and so on, till a SIGN begins there (or THE TEXT ends there).",
        "A place and the one n behind it are OPENED;"})
    static void promise14_cut_sixtyRowsDown() {
        PairPacker x = deep(60);
        due("left", x.cut(1, 59), 2);
        dueText("both ends", sequence(x), "0 0");
    }

    @Says({"-3: n is below 1;", "-3 a number can't be;"})
    static void promise14_cut_belowOne() {
        for (int n : new int[] {0, -1, MIN}) {
            refused("n " + n, Bench::busy, x -> x.cut(0, n), -3);
        }
    }

    @Says("-5: there aren't so many.")
    static void promise14_cut_notSoMany() {
        refused("one more", Bench::busy, x -> x.cut(0, 15), -5);
        refused("one more at the end", Bench::busy, x -> x.cut(13, 2), -5);
        refused("at the end", Bench::busy, x -> x.cut(14, 1), -5);
        refused("behind the end", Bench::busy, x -> x.cut(15, 1), -5);
        refused("a place below 0", Bench::busy, x -> x.cut(-1, 1), -5);
        refused("two from below 0", Bench::busy, x -> x.cut(-1, 2), -5);
        refused("the least place", Bench::busy, x -> x.cut(MIN, 1), -5);
        refused("far more", Bench::busy, x -> x.cut(1, MAX), -5);
        refused("far off", Bench::busy, x -> x.cut(MAX, 1), -5);
        refused("far off and more", Bench::busy, x -> x.cut(MAX, MAX), -5);
        due("of none", new PairPacker().cut(0, 1), -5);
    }

    @Says("(Of several that which the call tells first; all these ahead of NONE.)")
    static void promise14_cut_ofSeveralTheFirst() {
        due("below 1, no place", twice().cut(9, 0), -3);
        due("below 1, below 0", twice().cut(-1, -1), -3);
    }

    // ---- promise 15: insert

    @Says({"A place is OPENED;", "a LETTER comes in: how many there are."})
    static void promise15_insert_within() {
        PairPacker x = twice();
        due("how many", x.insert(3, 25), 9);
        dueText("the sequence", sequence(x), "26 0 25 1 27");
        dueText("the text", letters(x), "abazbabab");
        due("rules stay", x.count(2), 2);
    }

    @Says({"if it lies within the WORD of a SIGN of THE SEQUENCE (not at its begin)",
        "A place is OPENED;"})
    static void promise15_insert_atTheBeginOfASign() {
        PairPacker x = twice();
        due("at the first place", x.insert(0, 3), 9);
        dueText("none is opened", sequence(x), "3 27 27");
        due("at a sign's begin", x.insert(5, 4), 10);
        dueText("nor here", sequence(x), "3 27 4 27");
    }

    @Says({"To OPEN a place (0 to how many LETTERS there are)", "(or THE TEXT ends there)",
        "a LETTER comes in: how many there are."})
    static void promise15_insert_atTheEnd() {
        PairPacker x = twice();
        due("at the end", x.insert(8, 2), 9);
        dueText("none is opened", sequence(x), "27 27 2");
        due("into none", new PairPacker().insert(0, 7), 1);
    }

    @Says({"that SIGN becomes its ROW, and so on, till a SIGN begins there (or THE TEXT ends there).",
        "A place is OPENED;"})
    static void promise15_insert_sixtyRowsDown() {
        PairPacker x = deep(60);
        due("how many", x.insert(1, 25), 62);
        due("the letter", x.sign(1), 25);
        due("signs", x.count(1), 62);
    }

    @Says("-2: the LETTER;")
    static void promise15_insert_noLetter() {
        for (int letter : new int[] {-1, 26, 27, 86, MIN, MAX}) {
            refused("letter " + letter, Bench::busy, x -> x.insert(0, letter), -2);
        }
        due("z is one", twice().insert(0, 25), 9);
        due("a is one", twice().insert(0, 0), 9);
    }

    @Says("-5: the place is below 0, above how many there are;")
    static void promise15_insert_noPlace() {
        for (int place : new int[] {-1, 15, 240, MIN, MAX}) {
            refused("place " + place, Bench::busy, x -> x.insert(place, 0), -5);
        }
        due("1 of none", new PairPacker().insert(1, 0), -5);
    }

    @Says({"-4: there are 240.", "it never has more than 240 LETTERS"})
    static void promise15_insert_240() {
        PairPacker x = of("b".repeat(239));
        due("the last that can be", x.insert(239, 1), 240);
        due("one more at the end", x.insert(240, 1), -4);
        due("one more at the begin", x.insert(0, 1), -4);
        due("letters", x.count(0), 240);
        due("calls that can be undone", x.count(6), 2);
        x = packed("b".repeat(240));
        due("packed ones are letters, too", x.insert(7, 1), -4);
        due("none is opened", x.count(1), 5);
    }

    @Says("(Of several that which the call tells first; all these ahead of NONE.)")
    static void promise15_insert_ofSeveralTheFirst() {
        PairPacker x = of("b".repeat(240));
        due("no letter, no place, 240", x.insert(241, 26), -2);
        due("no place, 240", x.insert(241, 1), -5);
        due("below 0, 240", x.insert(-1, 1), -5);
    }
}
