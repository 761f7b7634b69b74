/** Promises 21 to 30: what is asked of the text where it is packed. */
final class AskedCases extends Bench {
    /** The text "ababzabab" as 27 25 27, of 27 = 26 26 and 26 = ab. */
    private static PairPacker around() {
        return ofForm(2, 26, 2, 0, 1, 27, 2, 26, 26, 3, 27, 25, 27);
    }

    private static final int[] NO_PLACES = {-1, 9, 10, 240, 241, MIN, MAX};

    // ---- promise 21: at

    @Says({"The LETTER at a place.", "places from 0 on."})
    static void promise21_at_places() {
        dueText("all", letters(around()), "ababzabab");
        due("the first", around().at(0), 0);
        due("the last", around().at(8), 1);
        due("the last of 240", ofForm(big(0)).at(239), 0);
        due("asked first of a text", of("abcd").at(2), 2);
        PairPacker x = around();
        x.at(0);
        x.put(0, 9);
        due("behind a change", x.at(0), 9);
    }

    @Says("NONE: not so many; -3: it is below 0.")
    static void promise21_at_notSoMany() {
        due("behind the last", around().at(9), NONE);
        due("far off", around().at(MAX), NONE);
        due("behind 240", ofForm(big(0)).at(240), NONE);
        due("of none", new PairPacker().at(0), NONE);
    }

    @Says("NONE: not so many; -3: it is below 0.")
    static void promise21_at_belowZero() {
        refused("-1", Bench::busy, x -> x.at(-1), -3);
        due("the least int", around().at(MIN), -3);
        due("of none", new PairPacker().at(-1), -3);
    }

    // ---- promise 22: within

    @Says("Of a place: what 0: which SIGN of THE SEQUENCE it lies in (i)")
    static void promise22_within_whichSign() {
        int[] want = {0, 0, 0, 0, 1, 2, 2, 2, 2};
        for (int place = 0; place < 9; place++) {
            due("place " + place, around().within(place, 0), want[place]);
        }
        due("asked first of a text", of("abcd").within(3, 0), 3);
    }

    @Says("1: where that one's WORD begins")
    static void promise22_within_whereItBegins() {
        int[] want = {0, 0, 0, 0, 4, 5, 5, 5, 5};
        for (int place = 0; place < 9; place++) {
            due("place " + place, around().within(place, 1), want[place]);
        }
    }

    @Says({"2: DEPTH of its LETTER.",
        "DEPTH of a LETTER of THE TEXT: how many ROWS it lies in, one within the other"
            + " (0: it stands in THE SEQUENCE itself)"})
    static void promise22_within_depth() {
        int[] want = {2, 2, 2, 2, 0, 2, 2, 2, 2};
        for (int place = 0; place < 9; place++) {
            due("place " + place, around().within(place, 2), want[place]);
        }
        PairPacker x = ofForm(2, 26, 2, 0, 1, 27, 2, 26, 2, 1, 27);
        due("two rows", x.within(1, 2), 2);
        due("one of them", x.within(2, 2), 1);
        due("sixty", deep(60).within(0, 2), 60);
        due("one of sixty", deep(60).within(60, 2), 1);
    }

    @Says("Of a place: what 0: which SIGN of THE SEQUENCE it lies in (i)")
    static void promise22_within_behindAChange() {
        PairPacker x = around();
        due("depth ahead", x.within(0, 2), 2);
        x.insert(0, 3);
        due("the sign behind it", x.within(5, 0), 2);
        due("its begin", x.within(5, 1), 5);
        due("its depth", x.within(5, 2), 0);
        due("the begin of the first rule", x.within(4, 1), 1);
        due("the depth of the first letter", x.within(0, 2), 0);
        x.cut(0, 6);
        due("the begin of what is left", x.within(3, 1), 0);
    }

    @Says("NONE: there is no such place")
    static void promise22_within_noSuchPlace() {
        for (int what = 0; what <= 2; what++) {
            due("the last, what " + what, around().within(8, what) >= 0 ? 1 : 0, 1);
            due("behind the last, what " + what, around().within(9, what), NONE);
            due("far off, what " + what, around().within(MAX, what), NONE);
            due("of none, what " + what, new PairPacker().within(0, what), NONE);
        }
    }

    @Says("-3: it is below 0;")
    static void promise22_within_belowZero() {
        for (int what = 0; what <= 2; what++) {
            due("-1, what " + what, around().within(-1, what), -3);
            due("the least int, what " + what, around().within(MIN, what), -3);
        }
        refused("-1", Bench::busy, x -> x.within(-1, 0), -3);
    }

    @Says("-2: another what (first).")
    static void promise22_within_anotherWhatFirst() {
        for (int what : new int[] {-1, 3, MIN, MAX}) {
            refused("what " + what, Bench::busy, x -> x.within(0, what), -2);
            due("no such place, what " + what, around().within(9, what), -2);
            due("below 0, what " + what, around().within(-1, what), -2);
        }
    }

    // ---- promise 23: way

    @Says({"The k-th SIGN (0: that of THE SEQUENCE) on the way down to the LETTER at a place",
        "the LETTER itself the last one."})
    static void promise23_way_down() {
        String text = "ababzabab";
        for (int place = 0; place < 9; place++) {
            boolean alone = place == 4;
            due("of the sequence at " + place, around().way(place, 0), alone ? 25 : 27);
            due("of its row at " + place, around().way(place, 1), alone ? NONE : 26);
            due("the letter at " + place, around().way(place, 2),
                alone ? NONE : text.charAt(place) - 'a');
        }
        due("asked first of a text", of("abcd").way(3, 0), 3);
        PairPacker x = ofForm(3, 26, 2, 0, 1, 27, 3, 2, 26, 3, 28, 2, 27, 4, 3, 25, 28, 28);
        int[][] ways = {{25}, {28, 27, 2}, {28, 27, 26, 0}, {28, 27, 26, 1}, {28, 27, 3}, {28, 4}};
        for (int place = 0; place < ways.length; place++) {
            for (int k = 0; k < ways[place].length; k++) {
                due("sign " + k + " of the way to " + place, x.way(place, k), ways[place][k]);
            }
            due("behind the letter " + place, x.way(place, ways[place].length), NONE);
        }
        due("sixty down", deep(60).way(0, 60), 0);
        due("59 down", deep(60).way(0, 59), 26);
        due("one down", deep(60).way(60, 1), 0);
    }

    @Says("NONE: not so many, no such place;")
    static void promise23_way_notSoMany() {
        due("behind the letter", around().way(6, 3), NONE);
        due("behind a letter alone", around().way(4, 1), NONE);
        due("far off", around().way(6, MAX), NONE);
        due("61 down", deep(60).way(0, 61), NONE);
        due("two down", deep(60).way(60, 2), NONE);
    }

    @Says("NONE: not so many, no such place;")
    static void promise23_way_noSuchPlace() {
        due("behind the last", around().way(9, 0), NONE);
        due("far off", around().way(MAX, 0), NONE);
        due("of none", new PairPacker().way(0, 0), NONE);
    }

    @Says("-3: one is below 0.")
    static void promise23_way_belowZero() {
        refused("the place", Bench::busy, x -> x.way(-1, 0), -3);
        refused("k", Bench::busy, x -> x.way(0, -1), -3);
        due("both", around().way(-1, -1), -3);
        due("the least place", around().way(MIN, 0), -3);
        due("the least k", around().way(0, MIN), -3);
        due("k, at no place", around().way(9, -1), -3);
        due("a place, and not so many", around().way(-1, 99), -3);
    }

    // ---- promise 24: ahead

    @Says("How often a LETTER is ahead of a place (0 to how many LETTERS there are).")
    static void promise24_ahead_ofAPlace() {
        due("ahead of the first", around().ahead(0, 0), 0);
        due("not at the place itself", around().ahead(0, 2), 1);
        due("ahead of it", around().ahead(0, 3), 2);
        due("at the end", around().ahead(0, 9), 4);
        due("z at the end", around().ahead(25, 9), 1);
        due("z ahead of it", around().ahead(25, 4), 0);
        due("one that isn't there", around().ahead(3, 9), 0);
        due("of none", new PairPacker().ahead(0, 0), 0);
        due("240", ofForm(big(0)).ahead(0, 240), 240);
    }

    @Says("-2; -5: the place.")
    static void promise24_ahead_noLetter() {
        for (int letter : new int[] {-1, 26, 27, 86, MIN, MAX}) {
            refused("letter " + letter, Bench::busy, x -> x.ahead(letter, 0), -2);
        }
    }

    @Says("-2; -5: the place.")
    static void promise24_ahead_noPlace() {
        for (int place : new int[] {-1, 10, 240, MIN, MAX}) {
            due("place " + place, around().ahead(0, place), -5);
        }
        refused("place 15 of 14", Bench::busy, x -> x.ahead(0, 15), -5);
        due("of none", new PairPacker().ahead(0, 1), -5);
    }

    @Says("(Of several that which the call tells first; all these ahead of NONE.)")
    static void promise24_ahead_ofSeveralTheFirst() {
        due("no letter, no place", around().ahead(26, 10), -2);
        due("no letter, below 0", around().ahead(-1, -1), -2);
    }

    // ---- promise 25: where

    @Says("The place of the k-th one (0 on) of a LETTER.")
    static void promise25_where_fromZeroOn() {
        due("the first a", around().where(0, 0), 0);
        due("the second a", around().where(0, 1), 2);
        due("the last a", around().where(0, 3), 7);
        due("the last b", around().where(1, 3), 8);
        due("z", around().where(25, 0), 4);
        due("the last of 240", ofForm(big(0)).where(0, 239), 239);
        due("asked first of a text", of("abcd").where(3, 0), 3);
    }

    @Says("NONE: not so many; -2; -3: k is below 0.")
    static void promise25_where_notSoMany() {
        due("a fifth a", around().where(0, 4), NONE);
        due("a second z", around().where(25, 1), NONE);
        due("one that isn't there", around().where(3, 0), NONE);
        due("far off", around().where(0, MAX), NONE);
        due("of none", new PairPacker().where(0, 0), NONE);
    }

    @Says("NONE: not so many; -2; -3: k is below 0.")
    static void promise25_where_noLetter() {
        for (int letter : new int[] {-1, 26, 27, 86, MIN, MAX}) {
            refused("letter " + letter, Bench::busy, x -> x.where(letter, 0), -2);
        }
    }

    @Says("NONE: not so many; -2; -3: k is below 0.")
    static void promise25_where_belowZero() {
        refused("-1", Bench::busy, x -> x.where(0, -1), -3);
        due("the least int", around().where(0, MIN), -3);
        due("of one that isn't there", around().where(3, -1), -3);
    }

    @Says("(Of several that which the call tells first; all these ahead of NONE.)")
    static void promise25_where_ofSeveralTheFirst() {
        due("no letter, below 0", around().where(26, -1), -2);
    }

    // ---- promise 26: common

    @Says("How many LETTERS are alike from two places on.")
    static void promise26_common_alike() {
        due("two", of("abcabdabc").common(0, 3), 2);
        due("to the end", of("abcabdabc").common(0, 6), 3);
        due("the other way round", of("abcabdabc").common(6, 0), 3);
        due("none", of("abcabdabc").common(0, 1), 0);
        due("over signs", around().common(0, 5), 4);
        due("they overlap", of("a".repeat(240)).common(0, 1), 239);
    }

    @Says("How many LETTERS are alike from two places on.")
    static void promise26_common_onePlace() {
        due("the whole rest", around().common(3, 3), 6);
        due("all", around().common(0, 0), 9);
        due("the last", around().common(8, 8), 1);
    }

    @Says("-5: a place isn't there (0 to how many there are less 1).")
    static void promise26_common_noPlace() {
        for (int place : NO_PLACES) {
            due("first place " + place, around().common(place, 0), -5);
            due("second place " + place, around().common(0, place), -5);
            due("both " + place, around().common(place, place), -5);
        }
        refused("14 of 14", Bench::busy, x -> x.common(0, 14), -5);
        due("of none", new PairPacker().common(0, 0), -5);
        due("the last ones", around().common(7, 8), 0);
    }

    // ---- promise 27: compare

    @Says({"Which of two places' rests of THE TEXT comes first (LETTER by LETTER;",
        "1 the first, 2 the second one."})
    static void promise27_compare_letterByLetter() {
        PairPacker x = of("abcabdab");
        due("c ahead of d", x.compare(0, 3), 1);
        due("d behind c", x.compare(3, 0), 2);
        due("a ahead of b", x.compare(0, 1), 1);
        due("over signs", around().compare(0, 2), 1);
    }

    @Says("one that ends ahead)")
    static void promise27_compare_oneThatEnds() {
        due("the second ends", of("abcab").compare(0, 3), 2);
        due("the first ends", of("abcab").compare(3, 0), 1);
        due("ahead of an a", of("aa").compare(1, 0), 1);
        due("behind an a", of("aa").compare(0, 1), 2);
        due("packed", packed("abababab").compare(4, 0), 1);
    }

    @Says("0 they are one")
    static void promise27_compare_one() {
        for (int place = 0; place < 9; place++) {
            due("place " + place, around().compare(place, place), 0);
        }
    }

    @Says("-5 likewise.")
    static void promise27_compare_noPlace() {
        for (int place : NO_PLACES) {
            due("first place " + place, around().compare(place, 0), -5);
            due("second place " + place, around().compare(0, place), -5);
            due("both " + place, around().compare(place, place), -5);
        }
        refused("14 of 14", Bench::busy, x -> x.compare(0, 14), -5);
        due("of none", new PairPacker().compare(0, 0), -5);
    }

    // ---- promise 28: print

    @Says({"PRINT of n LETTERS (0 and more) from a place on.",
        "The PRINT of n LETTERS from a place: from the left 0, then each time 31 times that"
            + " and the LETTER's number and 1"})
    static void promise28_print_ofLetters() {
        due("a", around().print(0, 1), 1);
        due("b", around().print(1, 1), 2);
        due("z", around().print(4, 1), 26);
        due("ab", around().print(0, 2), 33);
        due("ba", around().print(1, 2), 63);
        due("aba", around().print(0, 3), 31 * 33 + 1);
        due("bz, over signs", around().print(3, 2), 31 * 2 + 26);
    }

    @Says("PRINT of n LETTERS (0 and more) from a place on.")
    static void promise28_print_ofNone() {
        due("at the first place", around().print(0, 0), 0);
        due("at the end", around().print(9, 0), 0);
        due("of a new object", new PairPacker().print(0, 0), 0);
    }

    @Says("modulo 1000003.")
    static void promise28_print_modulo() {
        due("1000002 stays", of("abqrd").print(0, 5), 1000002);
        due("1000003 is 0", of("abqre").print(0, 5), 0);
        due("1000004 is 1", of("abqrf").print(0, 5), 1);
        for (String word : new String[] {"zzzz", "zzzzz", "zzzzzz", "zyxwvutsrq"}) {
            long made = 0;
            for (char letter : word.toCharArray()) {
                made = 31 * made + (letter - 'a') + 1;
            }
            due(word, of(word).print(0, word.length()), (int) (made % 1000003));
        }
        due("zzzzz", of("zzzzz").print(0, 5), 811858);
    }

    @Says("-3: n is below 0;")
    static void promise28_print_belowZero() {
        refused("-1", Bench::busy, x -> x.print(0, -1), -3);
        due("the least int", around().print(0, MIN), -3);
    }

    @Says("-5: there aren't so many, the place is below 0.")
    static void promise28_print_notSoMany() {
        refused("one more", Bench::busy, x -> x.print(0, 15), -5);
        due("all", around().print(0, 9) >= 0 ? 1 : 0, 1);
        due("one more than all", around().print(0, 10), -5);
        due("one more at the end", around().print(8, 2), -5);
        due("at the end", around().print(9, 1), -5);
        due("none behind the end", around().print(10, 0), -5);
        due("a place below 0", around().print(-1, 1), -5);
        due("none below 0", around().print(-1, 0), -5);
        due("far more", around().print(1, MAX), -5);
        due("far off", around().print(MAX, 1), -5);
        due("far below 0", around().print(MIN, 0), -5);
        due("far off and more", around().print(MAX, MAX), -5);
        due("of none", new PairPacker().print(0, 1), -5);
    }

    @Says("(Of several that which the call tells first; all these ahead of NONE.)")
    static void promise28_print_ofSeveralTheFirst() {
        due("below 0, no place", around().print(10, -1), -3);
        due("below 0, a place below 0", around().print(-1, -1), -3);
    }

    // ---- promise 29: repeat

    @Says("The length of the longest word of LETTERS that stands at two places")
    static void promise29_repeat_theLongest() {
        due("of many", of("xabcyabczabd").repeat(), 3);
        due("one letter", of("abca").repeat(), 1);
        due("over signs", around().repeat(), 4);
        due("to the end", of("zabcyabc").repeat(), 3);
        due("from the begin", of("abczabcy").repeat(), 3);
    }

    @Says("(they may overlap;")
    static void promise29_repeat_theyMayOverlap() {
        due("aaaaa", of("aaaaa").repeat(), 4);
        due("ababa", of("ababa").repeat(), 3);
        due("240", of("a".repeat(240)).repeat(), 239);
    }

    @Says("The length of the longest word of LETTERS that stands at two places")
    static void promise29_repeat_behindAChange() {
        PairPacker x = of("aaaaaaaa");
        due("seven", x.repeat(), 7);
        text(x, "aba");
        due("one", x.repeat(), 1);
        x.put(2, 2);
        due("none", x.repeat(), 0);
        x.undo(2);
        due("seven again", x.repeat(), 7);
    }

    @Says("0: none).")
    static void promise29_repeat_none() {
        due("all unlike", of("abcdefghijklmnopqrstuvwxyz").repeat(), 0);
        due("one", of("a").repeat(), 0);
        due("two alike", of("aa").repeat(), 1);
        due("of none", new PairPacker().repeat(), 0);
    }

    // ---- promise 30: repeatAt

    @Says("The least place at which a word of that length begins that stands at another place, too.")
    static void promise30_repeatAt_theLeastPlace() {
        due("of two words", of("xcdyabzabwcd").repeatAt(), 1);
        due("of three", of("yabxabzab").repeatAt(), 1);
        due("at the begin", of("abzab").repeatAt(), 0);
        due("they overlap", of("baaaa").repeatAt(), 1);
        due("over signs", ofForm(1, 26, 2, 0, 1, 4, 25, 26, 2, 26).repeatAt(), 1);
        due("the longest, not the first", of("axaxybcdzbcd").repeatAt(), 5);
    }

    @Says("The least place at which a word of that length begins that stands at another place, too.")
    static void promise30_repeatAt_behindAChange() {
        PairPacker x = of("zaaaaaaa");
        due("of many", x.repeatAt(), 1);
        text(x, "yzaba");
        due("of one", x.repeatAt(), 2);
        x.put(2, 2);
        due("none", x.repeatAt(), NONE);
        x.undo(2);
        due("of many again", x.repeatAt(), 1);
    }

    @Says("NONE: it is 0.")
    static void promise30_repeatAt_none() {
        due("all unlike", of("abc").repeatAt(), NONE);
        due("one", of("a").repeatAt(), NONE);
        due("two alike", of("aa").repeatAt(), 0);
        due("of none", new PairPacker().repeatAt(), NONE);
    }
}
