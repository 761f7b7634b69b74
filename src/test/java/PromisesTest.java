/** Each promise of the document by hand: ordinary calls, the edges that it names, wrong calls. */
public final class PromisesTest extends Bench {
    public static void main(String[] args) {
        newObject();
        feed();
        text();
        phrase();
        load();
        loadFaults();
        fault();
        step();
        pack();
        replace();
        drop();
        trim();
        unpack();
        put();
        cut();
        insert();
        sign();
        rule();
        word();
        pairs();
        pick();
        at();
        within();
        way();
        ahead();
        where();
        common();
        compare();
        print();
        repeat();
        repeatAt();
        hit();
        hits();
        gain();
        best();
        bits();
        form();
        code();
        coded();
        undo();
        image();
        restore();
        count();
        System.out.println(asked() + " answers asked for, " + wrong() + " of them not as due");
        if (wrong() != 0) {
            System.exit(1);
        }
    }

    // ---- texts

    private static void newObject() {
        begin("promise 1");
        PairPacker x = new PairPacker();
        due("letters", x.count(0), 0);
        due("rules", x.count(2), 0);
        due("no phrase", x.hits(2), 0);
        due("no fault", x.fault(0), 0);
        due("no fault's place", x.fault(1), -1);
        due("no image", x.restore(1), -6);
        due("nothing to undo", x.undo(1), -3);
        due("NONE", PairPacker.NONE, -1);
    }

    private static void feed() {
        begin("promise 2");
        PairPacker x = new PairPacker();
        due("twenty bytes", x.feed(0x61626364, 0x65666768, 0x696a6b6c, 0x6d6e6f70, 0x71727374), 20);
        due("on the tape", x.count(5), 20);
        due("all letters", x.text(20), 20);
        for (int i = 0; i < 20; i++) {
            due("letter " + i, x.at(i), i);
        }
        for (int i = 1; i <= 13; i++) {
            due("feed " + i, x.feed(0x61616161, 0, 0, 0, 0xff626262), 20 * i);
        }
        due("one more", x.feed(0, 0, 0, 0, 0), -4);
        due("as many as were", x.count(5), 260);
        due("nothing told of it", x.count(6), 1);
        due("a byte above 127", x.text(20), -31);
        due("where the high byte is", x.fault(1), 4);
        x.feed(0x61616161, 0x61616161, 0x61616161, 0x61616161, 0xff626262);
        x.text(20);
        due("where the byte 255 is", x.fault(1), 16);
    }

    private static void text() {
        begin("promise 3");
        PairPacker x = of("abab");
        x.step();
        feedText(x, "zyxzyx");
        due("the first ones", x.text(5), 5);
        dueText("the text", letters(x), "zyxzy");
        due("no rules", x.count(2), 0);
        due("a tape that is empty", x.count(5), 0);
        due("as can be undone", x.count(6), 3);
        feedText(x, "abc");
        due("below 0", x.text(-1), -3);
        due("above what there is", x.text(21), -3);
        due("the tape stays", x.count(5), 20);
        due("none of them", x.text(0), 0);
        due("no letters", x.count(0), 0);
        due("the tape goes", x.count(5), 0);
        feedText(x, "a`b");
        due("the sign below a", x.text(3), -31);
        due("at 1", x.fault(1), 1);
        feedText(x, "ab{");
        due("the sign above z", x.text(3), -31);
        due("at 2", x.fault(1), 2);
        due("refused ones aren't kept", x.count(6), 4);
        x = new PairPacker();
        feedText(x, "?".repeat(260));
        due("241", x.text(241), -4);
        due("the tape is empty", x.count(5), 0);
        feedText(x, "y".repeat(260));
        due("240", x.text(240), 240);
        due("all of them", x.count(0), 240);
    }

    private static void phrase() {
        begin("promise 4");
        PairPacker x = of("aaabaaa");
        feedText(x, "aab");
        due("two letters", x.phrase(2), 4);
        due("the phrase", x.hits(2), 2);
        due("a tape that is empty", x.count(5), 0);
        due("none to undo for it", x.count(6), 1);
        feedText(x, "aab");
        due("below 0", x.phrase(-1), -3);
        due("above what there is", x.phrase(21), -3);
        due("the tape stays", x.count(5), 20);
        due("no letter", x.phrase(0), -4);
        due("the tape is empty", x.count(5), 0);
        feedText(x, "a".repeat(21));
        due("21 letters", x.phrase(21), -4);
        due("the phrase stays", x.hits(2), 2);
        feedText(x, "aZ");
        due("no letter among them", x.phrase(2), -31);
        due("its place", x.fault(1), 1);
        due("the phrase stays yet", x.hits(2), 2);
        feedText(x, "a".repeat(20));
        due("20 letters", x.phrase(20), 0);
        due("20 of them", x.hits(2), 20);
        feedText(x, "c");
        due("a letter that isn't there", x.phrase(1), 0);
        feedText(x, "cc");
        x.text(2);
        due("a phrase stays with another text", x.hits(0), 2);
    }

    private static void load() {
        begin("promise 5");
        PairPacker x = new PairPacker();
        feedBytes(x, 2, 85, 3, 0, 1, 2, 26, 2, 85, 85, 3, 26, 25, 85);
        due("a form", x.load(14), 10);
        dueText("its text", letters(x), "abcabczabc");
        dueText("its sequence", sequence(x), "26 25 85");
        due("its rules", x.count(2), 2);
        due("a row", x.rule(85, 12), 2);
        due("a tape that is empty", x.count(5), 0);
        due("as can be undone", x.count(6), 1);
        feedBytes(x, 0, 0);
        due("below 0", x.load(-1), -3);
        due("above what there is", x.load(21), -3);
        due("the tape stays", x.count(5), 20);
        due("nothing is a form", x.load(2), 0);
        due("no rules", x.count(2), 0);
        due("fault 0", x.fault(0), 0);
        due("rules may be alike", letters(full(26, 85, 27)).length(), 6);
        due("60 rules", full(0).count(2), 60);
        due("a word of 240 letters", ofForm(big(0)).count(0), 240);
        int[] long240 = new int[242];
        long240[1] = 240;
        due("240 signs", ofForm(long240).count(1), 240);
        due("rules that aren't used", ofForm(1, 26, 2, 0, 0, 0).count(2), 1);
        due("a row of 12", ofForm(1, 40, 12, 0, 1, 2, 3, 4, 5, 6, 7, 8, 9, 10, 11, 1, 40).at(11), 11);
    }

    private static void loadFaults() {
        faulty(1, 0);
        faulty(2, 0, 61, 0);
        faulty(1, 2, 60, 26);
        faulty(2, 1, 1, 25, 1);
        faulty(2, 1, 1, 86, 1);
        faulty(2, 2, 1, 26, 1, 0);
        faulty(2, 2, 1, 26, 13, 0);
        faulty(1, 3, 1, 26, 2);
        faulty(1, 4, 1, 26, 2, 0);
        faulty(1, 5, 1, 26, 2, 0, 0);
        faulty(1, 6, 1, 26, 2, 0, 0, 1);
        faulty(1, 1, 1);
        faulty(1, 2, 1, 26);
        faulty(2, 1, 0, 241);
        faulty(1, 2, 0, 240);
        faulty(3, 5, 2, 26, 2, 0, 0, 26, 1);
        faulty(3, 3, 1, 26, 2, 26, 0);
        faulty(3, 3, 2, 27, 2, 26, 0, 26, 2, 0, 0, 0);
        faulty(3, 2, 0, 1, 26);
        faulty(3, 2, 0, 1, 86);
        faulty(3, 2, 0, 1, 255, 255);
        faulty(1, 3, 0, 1, 0, 0);
        faulty(1, 2, 0, 0, 255);
        faulty(4, 39, big(1));
        // the third rule's second sign makes it 288
        faulty(4, 32, 3, 26, 12, 0, 0, 0, 0, 0, 0, 0, 0, 0, 0, 0, 0,
            27, 12, 26, 26, 26, 26, 26, 26, 26, 26, 26, 26, 26, 26, 28, 2, 27, 27);
        PairPacker x = of("abab");
        x.step();
        feedBytes(x, 0, 1, 77);
        x.load(3);
        dueText("nothing else changes", sequence(x), "26 26");
        due("none to undo for it", x.count(6), 2);
    }

    private static void faulty(int kind, int place, int... bytes) {
        PairPacker x = new PairPacker();
        feedBytes(x, bytes);
        due("a fault " + kind, x.load(bytes.length), -30 - kind);
        due("fault(0)", x.fault(0), kind);
        due("fault(1)", x.fault(1), place);
        due("the tape is empty", x.count(5), 0);
    }

    private static void fault() {
        begin("promise 6");
        PairPacker x = new PairPacker();
        feedText(x, "ab-c");
        x.text(4);
        due("fault", x.fault(0), 1);
        due("place", x.fault(1), 2);
        due("others", x.fault(2), -1);
        due("below 0", x.fault(-1), -1);
        x.text(1);
        due("a call that leaves the tape", x.fault(0), 1);
        x.text(0);
        due("one of no byte", x.fault(0), 0);
        due("one of no byte: no place", x.fault(1), -1);
        x.load(0);
        due("a load of no byte", x.fault(0), 1);
        due("its place", x.fault(1), 0);
        x.phrase(0);
        due("a phrase that is refused", x.fault(0), 0);
        due("its place is none", x.fault(1), -1);
        x.load(0);
        feedText(x, "a".repeat(260));
        due("-4", x.text(241), -4);
        due("a text too long has no fault", x.fault(0), 0);
        x.load(0);
        feedText(x, "a");
        x.phrase(1);
        due("a phrase", x.fault(0), 0);
        x.load(0);
        x.undo(1);
        due("an undo leaves it", x.fault(0), 1);
        x.image(0);
        x.text(0);
        x.restore(0);
        due("an image doesn't hold it", x.fault(0), 0);
    }

    // ---- packed

    private static void step() {
        begin("promise 7");
        PairPacker x = of("bcbcabab");
        due("the least of like ones", x.step(), 26);
        dueText("replaced", sequence(x), "1 2 1 2 26 26");
        due("the next", x.step(), 27);
        dueText("replaced too", sequence(x), "27 27 26 26");
        due("none comes twice", x.step(), -1);
        due("none isn't kept", x.count(6), 3);
        x = of("aaaaa");
        due("a run", x.step(), 26);
        dueText("from the left", sequence(x), "26 26 0");
        x = full(0, 0, 1, 0, 0);
        due("a rule that was", x.step(), 26);
        dueText("is used", sequence(x), "26 1 26");
        x = full(2, 3, 2, 3);
        due("no number", x.step(), -4);
        due("isn't kept", x.count(6), 1);
        dueText("changes nothing", sequence(x), "2 3 2 3");
        x = ofForm(2, 26, 2, 0, 1, 28, 2, 0, 1, 4, 1, 2, 1, 2);
        due("the least free number", x.step(), 27);
    }

    private static void pack() {
        begin("promise 8");
        PairPacker x = of("abababab");
        due("twice", x.pack(), 2);
        dueText("packed", sequence(x), "27 27");
        due("kept as one", x.count(6), 2);
        due("no more", x.pack(), 0);
        due("kept too", x.count(6), 3);
        x = full(2, 3, 2, 3, 0, 1);
        due("no number is free", x.pack(), 0);
        due("and kept", x.count(6), 2);
        x = full(0, 0, 0, 0, 1, 2, 1, 2);
        due("one that was, then none", x.pack(), 1);
        dueText("the first only", sequence(x), "26 26 1 2 1 2");
        x = full(1, 2, 1, 2, 1, 2, 0, 0, 0, 0);
        due("a pick without a number ends it", x.pack(), 0);
    }

    private static void replace() {
        begin("promise 9");
        PairPacker x = of("abcabc");
        due("a pair", x.replace(1, 2), 26);
        dueText("replaced", sequence(x), "0 26 0 26");
        due("not there any more", x.replace(1, 2), -5);
        due("one that comes once", x.replace(26, 0), 27);
        dueText("once", sequence(x), "0 27 26");
        due("no sign", x.replace(0, 28), -2);
        due("no sign either", x.replace(28, 0), -2);
        due("below 0", x.replace(-1, 0), -2);
        due("above all", x.replace(0, 86), -2);
        due("never there", x.replace(2, 2), -5);
        due("refused ones aren't kept", x.count(6), 3);
        x = of("aaaa");
        due("a run", x.replace(0, 0), 26);
        dueText("not overlapping", sequence(x), "26 26");
        x = ofForm(3, 26, 3, 0, 1, 1, 40, 2, 0, 1, 30, 2, 0, 1, 2, 0, 1);
        due("the least rule of just the pair", x.replace(0, 1), 30);
        due("no new one", x.count(2), 3);
        x = full(0, 1, 2);
        due("one of many", x.replace(0, 1), 27);
        due("no number is free", x.replace(27, 2), -4);
        due("not kept", x.count(6), 2);
    }

    private static void drop() {
        begin("promise 10");
        PairPacker x = of("abababab");
        x.pack();
        due("a rule in a row", x.drop(26), 6);
        due("its row is longer", x.rule(27, 0), 4);
        dueText("the sequence stays", sequence(x), "27 27");
        due("size is told", x.count(3), 6);
        due("a rule in the sequence", x.drop(27), 8);
        dueText("letters again", sequence(x), "0 1 0 1 0 1 0 1");
        due("kept", x.count(6), 4);
        due("gone", x.drop(27), -2);
        due("a letter", x.drop(0), -2);
        due("above all", x.drop(86), -2);
        due("below 0", x.drop(-1), -2);
        x = ofForm(3, 26, 7, 0, 0, 0, 0, 0, 0, 0, 27, 6, 26, 1, 1, 1, 1, 1,
            28, 7, 26, 1, 1, 1, 1, 1, 1, 1, 28);
        due("a row of 13", x.drop(26), -5);
        due("not kept", x.count(6), 1);
        due("none is changed", x.rule(27, 0), 6);
        due("one that can be", x.drop(27), 15);
        x = ofForm(2, 26, 7, 0, 0, 0, 0, 0, 0, 0, 27, 6, 26, 1, 1, 1, 1, 1, 1, 27);
        due("a row of 12", x.drop(26), 13);
        due("12 signs", x.rule(27, 0), 12);
        x = ofForm(2, 27, 7, 0, 0, 0, 0, 0, 0, 0, 26, 7, 27, 1, 1, 1, 1, 1, 1, 1, 26);
        due("a row of 13 of the least rule", x.drop(27), -5);
        x = ofForm(2, 26, 7, 0, 0, 0, 0, 0, 0, 0, 85, 7, 26, 1, 1, 1, 1, 1, 1, 1, 85);
        due("a row of 13 of the last rule", x.drop(26), -5);
        x = ofForm(2, 26, 2, 0, 1, 27, 3, 26, 2, 26, 1, 27);
        due("twice in a row", x.drop(26), 6);
        due("all of them", x.rule(27, 14), 1);
        dueText("the text stays", letters(x), "abcab");
    }

    private static void trim() {
        begin("promise 11");
        PairPacker x = of("abcabc");
        x.step();
        x.step();
        due("26 is used once", x.trim(), 1);
        dueText("the sequence", sequence(x), "27 27");
        due("a row of three", x.rule(27, 0), 3);
        due("kept", x.count(6), 4);
        due("no more", x.trim(), 0);
        due("kept too", x.count(6), 5);
        x = ofForm(2, 26, 2, 0, 1, 27, 2, 26, 26, 0);
        due("one behind the other", x.trim(), 2);
        // 26 is used once but can't be dropped; 28 isn't used at all
        x = ofForm(3, 26, 8, 0, 0, 0, 0, 0, 0, 0, 0, 27, 6, 26, 1, 1, 1, 1, 1,
            28, 2, 0, 0, 2, 27, 27);
        due("one can't be", x.trim(), 1);
        due("it stays", x.rule(26, 0), 8);
        // 26 first: then 27 has 12 in its row and can't take 28 in any more
        x = ofForm(3, 26, 7, 0, 0, 0, 0, 0, 0, 0, 28, 2, 1, 1, 27, 6, 26, 28, 2, 2, 2, 2, 2, 27, 27);
        due("the least first", x.trim(), 1);
        due("28 stays", x.rule(28, 3), 1);
    }

    private static void unpack() {
        begin("promise 12");
        PairPacker x = of("abcabcabc");
        x.pack();
        due("all letters", x.unpack(), 9);
        due("no rules", x.count(2), 0);
        dueText("the sequence", sequence(x), "0 1 2 0 1 2 0 1 2");
        due("kept", x.count(6), 3);
        due("none", new PairPacker().unpack(), 0);
        x.undo(1);
        due("packed again", x.count(2) > 0 ? 1 : 0, 1);
    }

    private static void put() {
        begin("promise 13");
        PairPacker x = of("abababab");
        x.pack();
        due("what it was", x.put(2, 25), 0);
        dueText("opened there alone", sequence(x), "26 25 1 27");
        dueText("the text", letters(x), "abzbabab");
        due("the rules stay", x.count(2), 2);
        due("kept", x.count(6), 3);
        due("the same letter", x.put(7, 1), 1);
        dueText("opened all the same", sequence(x), "26 25 1 26 0 1");
        due("kept too", x.count(6), 4);
        due("no letter", x.put(0, 26), -2);
        due("below 0", x.put(0, -1), -2);
        due("the letter first", x.put(9, 26), -2);
        due("no place", x.put(8, 0), -5);
        due("below the first", x.put(-1, 0), -5);
        due("far off", x.put(Integer.MAX_VALUE, 0), -5);
        due("refused ones aren't kept", x.count(6), 4);
        x = deep(60);
        due("60 rows down", x.put(0, 3), 0);
        due("61 signs", x.count(1), 61);
        due("61 letters", x.count(0), 61);
    }

    private static void cut() {
        begin("promise 14");
        PairPacker x = of("abababab");
        x.pack();
        due("letters left", x.cut(1, 2), 6);
        dueText("the sequence", sequence(x), "0 1 27");
        dueText("the text", letters(x), "ababab");
        due("kept", x.count(6), 3);
        due("below 1", x.cut(0, 0), -3);
        due("below 1, first", x.cut(9, -1), -3);
        due("not so many", x.cut(5, 2), -5);
        due("no such place", x.cut(6, 1), -5);
        due("below 0", x.cut(-1, 1), -5);
        due("far more", x.cut(1, Integer.MAX_VALUE), -5);
        due("far off", x.cut(Integer.MAX_VALUE, Integer.MAX_VALUE), -5);
        due("the last one", x.cut(5, 1), 5);
        dueText("opened at the end", sequence(x), "0 1 26 0");
        due("all", x.cut(0, 5), 0);
        due("the rules stay", x.count(2), 2);
        due("none is left", x.cut(0, 1), -5);
    }

    private static void insert() {
        begin("promise 15");
        PairPacker x = of("abababab");
        x.pack();
        due("within", x.insert(3, 25), 9);
        dueText("opened", sequence(x), "26 0 25 1 27");
        due("at the end", x.insert(9, 2), 10);
        due("at the begin", x.insert(0, 3), 11);
        dueText("not opened", sequence(x), "3 26 0 25 1 27 2");
        due("kept", x.count(6), 5);
        due("no letter", x.insert(0, 26), -2);
        due("the letter first", x.insert(-1, -1), -2);
        due("below 0", x.insert(-1, 0), -5);
        due("above how many there are", x.insert(12, 0), -5);
        due("refused ones aren't kept", x.count(6), 5);
        x = of("b".repeat(239));
        due("the last that can be", x.insert(239, 1), 240);
        due("240", x.insert(240, 1), -4);
        due("the place first", x.insert(241, 1), -5);
        due("into nothing", new PairPacker().insert(0, 7), 1);
        x = deep(60);
        due("60 rows down", x.insert(1, 25), 62);
        due("its sign", x.sign(1), 25);
    }

    // ---- what there is

    private static void sign() {
        begin("promise 16");
        PairPacker x = of("zaza");
        due("the first", x.sign(0), 25);
        x.step();
        due("a rule's", x.sign(1), 26);
        due("not so many", x.sign(2), -1);
        due("far off", x.sign(Integer.MAX_VALUE), -1);
        due("below 0", x.sign(-1), -3);
    }

    private static void rule() {
        begin("promise 17");
        PairPacker x = of("aabaabaabaab");
        x.step();
        x.step();
        x.step();
        dueText("the sequence", sequence(x), "28 28");
        due("row", x.rule(28, 0), 2);
        due("word", x.rule(28, 1), 6);
        due("depth", x.rule(28, 2), 3);
        due("depth within", x.rule(26, 2), 1);
        due("uses in the sequence", x.rule(28, 3), 2);
        due("uses in rows", x.rule(26, 3) + x.rule(27, 3), 3);
        due("in the sequence", x.rule(28, 4), 2);
        due("not in the sequence", x.rule(27, 4), 0);
        due("no phrase", x.rule(28, 5), 0);
        seek(x, "a");
        due("hits within", x.rule(28, 5), 4);
        due("hits within a letter", x.rule(0, 5), 1);
        due("hits within another letter", x.rule(1, 5), 0);
        seek(x, "abaa");
        due("across the row", x.rule(28, 5), 1);
        due("too short", x.rule(26, 5), 0);
        due("the first of the row", x.rule(27, 10), 26);
        due("the second of the row", x.rule(27, 11), 1);
        due("not so many", x.rule(27, 12), -1);
        due("the last what", x.rule(27, 21), -1);
        due("a letter's row", x.rule(0, 10), -1);
        due("a letter's length", x.rule(0, 0), 0);
        due("a letter's word", x.rule(0, 1), 1);
        due("a letter's depth", x.rule(0, 2), 0);
        due("a letter's uses", x.rule(0, 3), 2);
        due("a letter's in the sequence", x.rule(0, 4), 0);
        due("none such", x.rule(29, 0), -2);
        due("below 0", x.rule(-1, 0), -2);
        due("above all", x.rule(86, 0), -2);
        for (int what : new int[] {-1, 6, 9, 22, Integer.MAX_VALUE, Integer.MIN_VALUE}) {
            due("what " + what, x.rule(27, what), -2);
        }
        due("a depth of 60", deep(60).rule(85, 2), 60);
        due("a word of 61", deep(60).rule(85, 1), 61);
        due("the 12th", ofForm(1, 26, 12, 0, 0, 0, 0, 0, 0, 0, 0, 0, 0, 0, 9, 0).rule(26, 21), 9);
    }

    private static void word() {
        begin("promise 18");
        PairPacker x = of("abcabc");
        x.pack();
        due("of a rule", x.word(27, 2), 2);
        due("its first", x.word(27, 0), 0);
        due("not so many", x.word(27, 3), -1);
        due("of a letter", x.word(25, 0), 25);
        due("a letter has one", x.word(25, 1), -1);
        due("none such", x.word(28, 0), -2);
        due("the sign first", x.word(28, -1), -2);
        due("below 0", x.word(27, -1), -3);
        due("deep down", deep(60).word(85, 60), 0);
    }

    private static void pairs() {
        begin("promise 19");
        PairPacker x = of("aaabaaaab");
        due("runs", x.pairs(0, 0), 3);
        due("unlike ones", x.pairs(0, 1), 2);
        due("once", x.pairs(1, 0), 1);
        due("never", x.pairs(1, 1), 0);
        due("no sign", x.pairs(26, 0), -2);
        due("no sign behind", x.pairs(0, 86), -2);
        due("below 0", x.pairs(0, -1), -2);
        x.step();
        due("signs of rules", x.pairs(26, 26), 1);
        due("a rule and a letter", x.pairs(26, 0), 1);
    }

    private static void pick() {
        begin("promise 20");
        PairPacker x = of("babazczcbacacada");
        due("the most often", x.pick(0), 100);
        due("of like ones the least first", x.pick(1), 2);
        due("then by the second sign", x.pick(2), 200);
        due("then", x.pick(3), 2502);
        due("not so many", x.pick(4), -1);
        due("far off", x.pick(Integer.MAX_VALUE), -1);
        due("below 0", x.pick(-1), -3);
        x = of("abababab");
        x.step();
        due("of rules", x.pick(0), 2626);
        due("asked again", x.pick(0), 2626);
    }

    // ---- asked where it is packed

    private static void at() {
        begin("promise 21");
        PairPacker x = of("abcdabcd");
        x.pack();
        due("a place", x.at(6), 2);
        due("the last", x.at(7), 3);
        due("not so many", x.at(8), -1);
        due("below 0", x.at(-1), -3);
    }

    private static void within() {
        begin("promise 22");
        PairPacker x = of("abababab");
        x.pack();
        x.insert(4, 25);
        due("which sign", x.within(6, 0), 2);
        due("its begin", x.within(6, 1), 5);
        due("depth", x.within(6, 2), 2);
        due("the letter between", x.within(4, 0), 1);
        due("its begin", x.within(4, 1), 4);
        due("its depth", x.within(4, 2), 0);
        due("no such place", x.within(9, 0), -1);
        due("below 0", x.within(-1, 2), -3);
        due("another what first", x.within(-1, 3), -2);
        due("what below 0", x.within(0, -1), -2);
    }

    private static void way() {
        begin("promise 23");
        PairPacker x = of("abababab");
        x.pack();
        due("of the sequence", x.way(5, 0), 27);
        due("on the way", x.way(5, 1), 26);
        due("the letter", x.way(5, 2), 1);
        due("no more", x.way(5, 3), -1);
        due("far off", x.way(5, Integer.MAX_VALUE), -1);
        due("no such place", x.way(8, 0), -1);
        due("a place below 0", x.way(-1, 0), -3);
        due("k below 0", x.way(9, -1), -3);
        x = deep(60);
        due("60 down", x.way(0, 60), 0);
        due("59 down", x.way(0, 59), 26);
        due("61 down", x.way(0, 61), -1);
    }

    private static void ahead() {
        begin("promise 24");
        PairPacker x = of("abcabcab");
        x.pack();
        due("ahead of 0", x.ahead(0, 0), 0);
        due("not the place itself", x.ahead(0, 3), 1);
        due("all", x.ahead(0, 8), 3);
        due("none such in it", x.ahead(25, 8), 0);
        due("no letter", x.ahead(26, 0), -2);
        due("the letter first", x.ahead(-1, 9), -2);
        due("the place", x.ahead(0, 9), -5);
        due("below 0", x.ahead(0, -1), -5);
    }

    private static void where() {
        begin("promise 25");
        PairPacker x = of("abcabcab");
        x.pack();
        due("the first", x.where(1, 0), 1);
        due("the third", x.where(1, 2), 7);
        due("not so many", x.where(1, 3), -1);
        due("never", x.where(25, 0), -1);
        due("no letter", x.where(26, 0), -2);
        due("the letter first", x.where(-1, -1), -2);
        due("below 0", x.where(0, -1), -3);
    }

    private static void common() {
        begin("promise 26");
        PairPacker x = of("abcabdabc");
        x.pack();
        due("two", x.common(0, 3), 2);
        due("to the end", x.common(0, 6), 3);
        due("the other way", x.common(6, 0), 3);
        due("the same", x.common(4, 4), 5);
        due("none", x.common(0, 1), 0);
        due("no place", x.common(0, 9), -5);
        due("no first place", x.common(-1, 0), -5);
        due("neither", new PairPacker().common(0, 0), -5);
    }

    private static void compare() {
        begin("promise 27");
        PairPacker x = of("abcabdab");
        x.pack();
        due("the first", x.compare(0, 3), 1);
        due("the second", x.compare(3, 0), 2);
        due("one that ends", x.compare(0, 6), 2);
        due("one that ends, first", x.compare(6, 0), 1);
        due("one", x.compare(5, 5), 0);
        due("no place", x.compare(0, 8), -5);
        due("no first place", x.compare(-1, 0), -5);
    }

    private static void print() {
        begin("promise 28");
        PairPacker x = of("abcabc");
        x.pack();
        due("none", x.print(6, 0), 0);
        due("one", x.print(2, 1), 3);
        due("two", x.print(0, 2), 33);
        due("alike ones", x.print(3, 3), x.print(0, 3));
        due("below 0", x.print(9, -1), -3);
        due("not so many", x.print(4, 3), -5);
        due("no place", x.print(7, 0), -5);
        due("a place below 0", x.print(-1, 1), -5);
        due("far more", x.print(1, Integer.MAX_VALUE), -5);
        due("modulo", of("zzzzz").print(0, 5), 811858);
    }

    private static void repeat() {
        begin("promise 29");
        due("overlapping", of("aaaaa").repeat(), 4);
        due("none", of("abc").repeat(), 0);
        due("nothing", new PairPacker().repeat(), 0);
        due("one letter", of("abca").repeat(), 1);
        PairPacker x = of("xabcyabczabd");
        x.pack();
        due("a word", x.repeat(), 3);
        feedText(x, "ab");
        x.text(2);
        due("another text", x.repeat(), 0);
    }

    private static void repeatAt() {
        begin("promise 30");
        due("none", of("abc").repeatAt(), -1);
        due("overlapping", of("baaaa").repeatAt(), 1);
        PairPacker x = of("xcdyabzabwcd");
        x.pack();
        due("the least place", x.repeatAt(), 1);
        due("nothing", new PairPacker().repeatAt(), -1);
    }

    // ---- phrases

    private static void hit() {
        begin("promise 31");
        PairPacker x = of("aaabaa");
        due("no phrase", x.hit(0), -5);
        due("below 0, first", x.hit(-1), -3);
        seek(x, "aa");
        x.pack();
        due("the first", x.hit(0), 0);
        due("overlapping", x.hit(1), 1);
        due("the last", x.hit(2), 4);
        due("not so many", x.hit(3), -1);
        due("far off", x.hit(Integer.MAX_VALUE), -1);
        due("below 0", x.hit(-1), -3);
    }

    private static void hits() {
        begin("promise 32");
        PairPacker x = of("abababab");
        due("no phrase", x.hits(1), -5);
        due("no letters of it", x.hits(2), 0);
        due("another what first", x.hits(3), -2);
        x.pack();
        seek(x, "ba");
        due("all", x.hits(0), 3);
        due("crossing", x.hits(1), 1);
        due("letters", x.hits(2), 2);
        due("below 0", x.hits(-1), -2);
        seek(x, "b");
        due("one letter never crosses", x.hits(1), 0);
        x.image(0);
        seek(x, "baba");
        x.restore(0);
        due("an image leaves the phrase", x.hits(2), 4);
        x.text(0);
        due("a text leaves the phrase", x.hits(0), 0);
    }

    // ---- how well

    private static void gain() {
        begin("promise 33");
        PairPacker x = of("abababc");
        due("a new rule", x.gain(0, 1), 1);
        due("below 0", x.gain(1, 2), -1);
        due("no sign", x.gain(26, 0), -2);
        due("no sign behind", x.gain(0, -1), -2);
        due("it doesn't stand there", x.gain(2, 0), -5);
        x.step();
        x.put(0, 0);
        x.insert(0, 2);
        x = ofForm(1, 26, 2, 0, 1, 4, 0, 1, 0, 1);
        due("a rule of it", x.gain(0, 1), 2);
        x = full(2, 3, 2, 3, 2, 3, 0, 0);
        due("no number is free", x.gain(2, 3), 1);
        due("but a rule", x.gain(0, 0), 1);
    }

    private static void best() {
        begin("promise 34");
        PairPacker x = of("abababab");
        due("none", x.best(0), 8);
        due("one", x.best(1), 6);
        due("two", x.best(2), 6);
        due("below 0", x.best(-1), -3);
        due("three", x.best(3), -3);
        due("it changes nothing", x.count(3), 8);
        due("not even by a loss", of("abc").best(2), 3);
        x = of("abcabcabcabcabc");
        due("two rules", x.best(2), 9);
        x = ofForm(1, 26, 2, 0, 1, 2, 0, 1);
        due("a rule of it", x.best(1), 3);
        x = full(2, 3, 2, 3, 2, 3, 0, 0);
        due("no number is free", x.best(2), 127);
        // ac is the best one, but behind it stands no other that gains
        x = of("acbacbacbacb");
        due("one behind the other", x.best(2), 8);
        due("one of them", x.best(1), 10);
        x = nearlyFull(59);
        due("one number, one replaced", x.best(1), 132);
        due("one number, two", x.best(2), 132);
        x = nearlyFull(58);
        due("two numbers, one replaced", x.best(1), 130);
        due("two numbers, two", x.best(2), 128);
    }

    /** So many rules of aa, and a sequence of four times bc and four times de. */
    private static PairPacker nearlyFull(int rules) {
        int[] bytes = new int[2 + 4 * rules + 16];
        bytes[0] = rules;
        for (int i = 0; i < rules; i++) {
            bytes[1 + 4 * i] = 26 + i;
            bytes[2 + 4 * i] = 2;
        }
        bytes[1 + 4 * rules] = 16;
        for (int i = 0; i < 16; i++) {
            bytes[2 + 4 * rules + i] = i < 8 ? 1 + i % 2 : 3 + i % 2;
        }
        return ofForm(bytes);
    }

    private static void bits() {
        begin("promise 35");
        PairPacker x = of("abababab");
        x.pack();
        due("size by letters", x.bits(0), Float.floatToIntBits(6f / 8f));
        due("depths by letters", x.bits(1), Float.floatToIntBits(2f));
        due("folded", x.bits(2), Float.floatToIntBits((4f * 0.25f * 0.5f + 4f) * 0.25f));
        x.cut(0, 3);
        due("size by five", x.bits(0), Float.floatToIntBits(6f / 5f));
        due("depths by five", x.bits(1), Float.floatToIntBits(8f / 5f));
        due("another what", x.bits(3), -2147483648);
        due("below 0", x.bits(-1), -2147483648);
        x.unpack();
        due("no depth", x.bits(1), 0);
        x = ofForm(1, 26, 2, 0, 0, 0);
        due("no letters, size", x.bits(0), 0);
        due("no letters, depth", x.bits(1), 0);
        due("no letters, folded", x.bits(2), 0);
        x = deep(60);
        due("above 2", x.bits(0), Float.floatToIntBits(121f / 61f));
        due("far above 2", x.bits(1), Float.floatToIntBits((60f + 1830f) / 61f));
        due("folded once", x.bits(2), Float.floatToIntBits(61f * 0.25f));
        x = ofForm(big(0));
        due("far below 1", x.bits(0), Float.floatToIntBits(33f / 240f));
    }

    private static void form() {
        begin("promise 36");
        int[] given = {3, 50, 2, 0, 1, 30, 2, 50, 50, 26, 3, 0, 0, 30, 2, 26, 5};
        PairPacker x = ofForm(given);
        for (int i = 0; i < given.length; i++) {
            due("byte " + i, x.form(i), given[i]);
        }
        due("not so many", x.form(given.length), -1);
        due("below 0", x.form(-1), -3);
        // the order is its own: the least that can be told, whatever was told first
        x = ofForm(3, 60, 2, 0, 0, 40, 2, 1, 1, 26, 2, 40, 60, 1, 26);
        due("40 first", x.form(1), 40);
        due("then 60", x.form(5), 60);
        due("then 26", x.form(9), 26);
        due("nothing", new PairPacker().form(1), 0);
        longForm();
    }

    /** 59 rules of 12 signs each, one more, and 240 signs in the sequence. */
    private static void longForm() {
        int[] bytes = new int[2 + 8 + 59 * 4];
        int[] head = {60, 26, 6, 0, 1, 2, 3, 4, 5};
        System.arraycopy(head, 0, bytes, 0, head.length);
        for (int i = 0; i < 59; i++) {
            bytes[9 + 4 * i] = 27 + i;
            bytes[10 + 4 * i] = 2;
            bytes[11 + 4 * i] = 26;
            bytes[12 + 4 * i] = 26;
        }
        PairPacker x = ofForm(bytes);
        due("59 long rows", x.drop(26), 59 * 12);
        x.insert(0, 1);
        x.insert(0, 0);
        due("the least number again", x.replace(0, 1), 26);
        for (int i = 2; i < 240; i++) {
            x.insert(0, i % 26);
        }
        due("all rules", x.count(2), 60);
        due("signs", x.count(1), 239);
        due("a long form", x.count(9), 2 + 59 * 14 + 4 + 239);
        due("its last byte", x.form(1070), 26);
        due("not so many", x.form(1071), -1);
        due("its size", x.count(3), 59 * 12 + 2 + 239);
        due("size by letters", x.bits(0), Float.floatToIntBits(949f / 240f));
    }

    private static void code() {
        begin("promise 37");
        PairPacker x = of("aaaabbc");
        due("length", x.code(0, 0), 1);
        due("longer", x.code(1, 0), 2);
        due("code", x.code(0, 1), 0);
        due("next", x.code(1, 1), 2);
        due("the last", x.code(2, 1), 3);
        due("it isn't there", x.code(3, 0), 0);
        due("no code", x.code(3, 1), -1);
        due("none such", x.code(26, 0), -2);
        due("another what", x.code(0, 2), -2);
        due("what below 0", x.code(0, -1), -2);
        x = of("zzz");
        due("the only one", x.code(25, 0), 1);
        due("its code", x.code(25, 1), 0);
        // a and b weigh as c does: of like ones the group with a in it is put together first
        x = of("abccddd");
        due("a", x.code(0, 0), 3);
        due("c", x.code(2, 0), 2);
        due("d", x.code(3, 0), 1);
        x = of("abccdd");
        due("c and d together", x.code(2, 0) + x.code(3, 0), 3);
        due("c with the a and b", x.code(2, 0), 2);
        due("codes of three", x.code(0, 1), 6);
    }

    private static void coded() {
        begin("promise 38");
        PairPacker x = of("zzzzbbac");
        due("the shortest", x.coded(0), 25);
        due("then", x.coded(1), 1);
        due("of like ones by number", x.coded(2), 0);
        due("the last", x.coded(3), 2);
        due("not so many", x.coded(4), -1);
        due("below 0", x.coded(-1), -3);
        due("nothing", new PairPacker().coded(0), -1);
    }

    // ---- back

    private static void undo() {
        begin("promise 39");
        PairPacker x = of("abababab");
        x.step();
        x.step();
        due("one", x.undo(1), 2);
        dueText("back", sequence(x), "26 26 26 26");
        due("rules back", x.count(2), 1);
        due("two", x.undo(2), 0);
        due("nothing", x.count(0), 0);
        due("none is left", x.undo(1), -3);
        for (int i = 0; i < 12; i++) {
            x.insert(0, i);
        }
        due("ten at most", x.count(6), 10);
        due("below 1", x.undo(0), -3);
        due("eleven", x.undo(11), -3);
        due("below 0", x.undo(Integer.MIN_VALUE), -3);
        due("ten", x.undo(10), 0);
        dueText("the eldest are forgotten", letters(x), "ba");
        x = of("aabbaabb");
        x.unpack();
        x.trim();
        x.pack();
        x.replace(26, 26);
        x.drop(26);
        x.put(0, 5);
        x.cut(0, 1);
        due("each as one", x.count(6), 7);
        feedText(x, "ab");
        x.phrase(2);
        x.undo(6);
        dueText("as a whole", sequence(x), "0 0 1 1 0 0 1 1");
        due("the phrase stays", x.hits(2), 2);
        feedText(x, "ab");
        x.undo(1);
        due("the tape stays", x.count(5), 20);
    }

    private static void image() {
        begin("promise 40");
        PairPacker x = of("abab");
        due("made", x.image(0), 0);
        due("the other", x.image(1), 0);
        due("made again", x.image(1), 0);
        due("none such", x.image(2), -2);
        due("below 0", x.image(-1), -2);
        due("it can't be undone", x.count(6), 1);
    }

    private static void restore() {
        begin("promise 41");
        PairPacker x = of("abab");
        x.image(1);
        x.step();
        due("none was made", x.restore(0), -6);
        due("none such", x.restore(2), -2);
        due("below 0", x.restore(-1), -2);
        due("refused, nothing changes", x.count(6), 2);
        x.image(0);
        due("as it was", x.restore(1), 0);
        dueText("letters", sequence(x), "0 1 0 1");
        due("no rules", x.count(2), 0);
        due("nothing can be undone", x.count(6), 0);
        due("nor is it", x.undo(1), -3);
        x.cut(0, 4);
        due("the other one", x.restore(0), 0);
        dueText("packed", sequence(x), "26 26");
        due("again", x.restore(1), 0);
        dueText("it stays", sequence(x), "0 1 0 1");
        feedText(x, "ab");
        x.restore(1);
        due("the tape stays", x.count(5), 20);
    }

    private static void count() {
        begin("promise 42");
        PairPacker x = of("abababababc");
        x.pack();
        x.put(0, 0);
        feedText(x, "abc");
        dueText("the sequence", sequence(x), "0 1 26 27 26 2");
        due("letters", x.count(0), 11);
        due("signs", x.count(1), 6);
        due("rules", x.count(2), 2);
        due("size", x.count(3), 10);
        due("the greatest depth", x.count(4), 2);
        due("bytes on the tape", x.count(5), 20);
        due("calls", x.count(6), 3);
        due("unlike pairs", x.count(7), 5);
        due("the least free", x.count(8), 28);
        due("bytes of the form", x.count(9), 16);
        due("bits", x.count(10), 14);
        due("others", x.count(11), -1);
        due("below 0", x.count(-1), -1);
        due("none is free", full(0).count(8), -1);
        due("one between", ofForm(1, 27, 2, 0, 0, 0).count(8), 26);
        due("pairs alike once", of("aaaa").count(7), 1);
        due("bits of one", of("zzz").count(10), 3);
        due("no depth", of("zzz").count(4), 0);
        due("a rule that isn't there doesn't count", ofForm(1, 27, 2, 0, 0, 0).count(4), 0);
        due("a form above the tape", full(0).count(9), 243);
    }
}
