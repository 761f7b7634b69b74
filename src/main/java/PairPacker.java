/**
 * A text packed by its pairs: two neighbours that come often become one sign.
 * What each call answers is told in the project's document, promise by promise.
 *
 * The sequence and the rules are kept in a Packing. What is asked of the text (letters at places,
 * depths, words) is read off it once behind each change and kept until the next one.
 * All rows and tables are made with the object; no call makes another one.
 */
public final class PairPacker {
    public static final int NONE = -1;

    private static final int NO_SUCH = -2;
    private static final int BAD_NUMBER = -3;
    private static final int TOO_MANY = -4;
    private static final int NOT_NOW = -5;
    private static final int NO_IMAGE = -6;
    private static final int FAULTY = -30;
    private static final int NO_FLOAT = -2147483648;

    private static final int LETTERS = 26;
    private static final int RULES = 60;
    private static final int SIGNS = LETTERS + RULES;
    private static final int SHORTEST_ROW = 2;
    private static final int LONGEST_ROW = 12;
    private static final int PAIR_ROW = 2;
    private static final int MOST_LETTERS = 240;
    private static final int TAPE_ROOM = 260;
    private static final int BYTES_FED = 20;
    private static final int LONGEST_PHRASE = 20;
    private static final int MOST_UNDONE = 10;
    private static final int IMAGES = 2;
    private static final int MOST_REPLACES = 2;
    private static final int FORM_ROOM = 2 + RULES * (2 + LONGEST_ROW) + MOST_LETTERS;
    private static final int FIRST_ROW_SIGN = 10;
    private static final int PRINT_FACTOR = 31;
    private static final int PRINT_MODULUS = 1000003;

    private static final int NO_FAULT = 0;
    private static final int SURPLUS_OR_SHORT = 1;
    private static final int IMPOSSIBLE_BYTE = 2;
    private static final int UNTOLD_SIGN = 3;
    private static final int TOO_LONG = 4;

    private final Packing packing = new Packing();
    private final Past past = new Past();
    private final Packing[] images = new Packing[IMAGES];
    private final boolean[] imageMade = new boolean[IMAGES];

    private final Row tape = new Row(TAPE_ROOM);
    private final Row sought = new Row(LONGEST_PHRASE);
    private final FormReader formReader = new FormReader();
    private int faultKind = NO_FAULT;
    private int faultPlace = NONE;

    private final Words words = new Words();
    private final Reading reading = new Reading();
    private boolean isRead = false;

    private final Row oneSign = new Row(1);
    private final Reading wordReading = new Reading();
    private final PairTable pairTable = new PairTable();
    private final Search search = new Search();
    private final Codes codes = new Codes();
    private final Row formBytes = new Row(FORM_ROOM);

    public PairPacker() {
        for (int i = 0; i < IMAGES; i++) {
            images[i] = new Packing();
        }
    }

    // ---- texts

    public int feed(int a, int b, int c, int d, int e) {
        if (tape.size() + BYTES_FED > TAPE_ROOM) {
            return TOO_MANY;
        }
        feedOne(a);
        feedOne(b);
        feedOne(c);
        feedOne(d);
        feedOne(e);
        return tape.size();
    }

    public int text(int n) {
        if (!isOnTape(n)) {
            return BAD_NUMBER;
        }
        if (n > MOST_LETTERS) {
            endTape(NO_FAULT, NONE);
            return TOO_MANY;
        }
        int wrong = firstNoLetter(n);
        if (wrong != NONE) {
            return refuseTape(SURPLUS_OR_SHORT, wrong);
        }
        past.keep(packing);
        packing.clear();
        takeLetters(n, packing.sequence());
        isRead = false;
        endTape(NO_FAULT, NONE);
        return n;
    }

    public int phrase(int n) {
        if (!isOnTape(n)) {
            return BAD_NUMBER;
        }
        if (n == 0 || n > LONGEST_PHRASE) {
            endTape(NO_FAULT, NONE);
            return TOO_MANY;
        }
        int wrong = firstNoLetter(n);
        if (wrong != NONE) {
            return refuseTape(SURPLUS_OR_SHORT, wrong);
        }
        sought.clear();
        takeLetters(n, sought);
        endTape(NO_FAULT, NONE);
        read();
        return reading.hitsOf(sought);
    }

    public int load(int n) {
        if (!isOnTape(n)) {
            return BAD_NUMBER;
        }
        formReader.readFrom(tape, n);
        if (formReader.faultKind() != NO_FAULT) {
            return refuseTape(formReader.faultKind(), formReader.faultPlace());
        }
        past.keep(packing);
        packing.take(formReader.packing());
        isRead = false;
        endTape(NO_FAULT, NONE);
        return letterCount();
    }

    public int fault(int what) {
        if (what == 0) {
            return faultKind;
        }
        return what == 1 ? faultPlace : NONE;
    }

    // ---- packed

    public int step() {
        pairTable.tally(packing.sequence());
        int pair = pairTable.ranked(0);
        if (pair == NONE) {
            return NONE;
        }
        return join(PairTable.leftOf(pair), PairTable.rightOf(pair));
    }

    public int pack() {
        past.keep(packing);
        isRead = false;
        int times = 0;
        while (times < MOST_LETTERS && packBest()) {
            times++;
        }
        return times;
    }

    public int replace(int left, int right) {
        if (!packing.has(left) || !packing.has(right)) {
            return NO_SUCH;
        }
        pairTable.tally(packing.sequence());
        if (pairTable.countOf(left, right) == 0) {
            return NOT_NOW;
        }
        return join(left, right);
    }

    public int drop(int sign) {
        if (!packing.isRule(sign)) {
            return NO_SUCH;
        }
        if (!packing.canGiveUp(sign)) {
            return NOT_NOW;
        }
        past.keep(packing);
        packing.giveUp(sign);
        isRead = false;
        return packing.size();
    }

    public int trim() {
        past.keep(packing);
        isRead = false;
        int dropped = 0;
        for (int i = 0; i < RULES; i++) {
            int sign = packing.leastIdle();
            if (sign == NONE) {
                return dropped;
            }
            packing.giveUp(sign);
            dropped++;
        }
        return dropped;
    }

    public int unpack() {
        read();
        past.keep(packing);
        packing.clear();
        for (int place = 0; place < reading.size(); place++) {
            packing.sequence().add(reading.letterAt(place));
        }
        isRead = false;
        return packing.sequence().size();
    }

    public int put(int place, int letter) {
        if (!isLetter(letter)) {
            return NO_SUCH;
        }
        read();
        if (!reading.hasPlace(place)) {
            return NOT_NOW;
        }
        int before = reading.letterAt(place);
        past.keep(packing);
        int index = packing.open(place, words);
        packing.open(place + 1, words);
        packing.sequence().set(index, letter);
        isRead = false;
        return before;
    }

    public int cut(int place, int n) {
        if (n < 1) {
            return BAD_NUMBER;
        }
        if (!isStretch(place, n)) {
            return NOT_NOW;
        }
        past.keep(packing);
        int from = packing.open(place, words);
        int to = packing.open(place + n, words);
        packing.sequence().removeFrom(from, to - from);
        isRead = false;
        return letterCount();
    }

    public int insert(int place, int letter) {
        if (!isLetter(letter)) {
            return NO_SUCH;
        }
        read();
        if (place < 0 || place > reading.size()) {
            return NOT_NOW;
        }
        if (reading.size() == MOST_LETTERS) {
            return TOO_MANY;
        }
        past.keep(packing);
        packing.sequence().addAt(packing.open(place, words), letter);
        isRead = false;
        return letterCount();
    }

    // ---- what there is

    public int sign(int i) {
        return i < 0 ? BAD_NUMBER : packing.sequence().get(i);
    }

    public int rule(int sign, int what) {
        if (!packing.has(sign)) {
            return NO_SUCH;
        }
        read();
        switch (what) {
            case 0:
                return packing.rowOf(sign).size();
            case 1:
                return words.lettersOf(sign);
            case 2:
                return words.depthOf(sign);
            case 3:
                return packing.usesOf(sign);
            case 4:
                return packing.sequence().howMany(sign);
            case 5:
                return hitsWithin(sign);
            default:
                return rowSign(sign, what);
        }
    }

    public int word(int sign, int i) {
        if (!packing.has(sign)) {
            return NO_SUCH;
        }
        if (i < 0) {
            return BAD_NUMBER;
        }
        read();
        if (i >= words.lettersOf(sign)) {
            return NONE;
        }
        words.goDown(packing, sign, i, RULES);
        return words.reached();
    }

    public int pairs(int left, int right) {
        if (!packing.has(left) || !packing.has(right)) {
            return NO_SUCH;
        }
        pairTable.tally(packing.sequence());
        return pairTable.countOf(left, right);
    }

    public int pick(int i) {
        if (i < 0) {
            return BAD_NUMBER;
        }
        pairTable.tally(packing.sequence());
        int pair = pairTable.ranked(i);
        return pair == NONE ? NONE : 100 * PairTable.leftOf(pair) + PairTable.rightOf(pair);
    }

    // ---- asked where it is packed

    public int at(int place) {
        if (place < 0) {
            return BAD_NUMBER;
        }
        read();
        return reading.letterAt(place);
    }

    public int within(int place, int what) {
        if (what < 0 || what > 2) {
            return NO_SUCH;
        }
        if (place < 0) {
            return BAD_NUMBER;
        }
        read();
        if (what == 0) {
            return reading.homeAt(place);
        }
        return what == 1 ? reading.beginAt(place) : reading.depthAt(place);
    }

    public int way(int place, int k) {
        if (place < 0 || k < 0) {
            return BAD_NUMBER;
        }
        read();
        if (!reading.hasPlace(place) || k > RULES) {
            return NONE;
        }
        int top = packing.sequence().get(reading.homeAt(place));
        words.goDown(packing, top, place - reading.beginAt(place), k);
        return words.levelsGone() < k ? NONE : words.reached();
    }

    public int ahead(int letter, int place) {
        if (!isLetter(letter)) {
            return NO_SUCH;
        }
        read();
        if (place < 0 || place > reading.size()) {
            return NOT_NOW;
        }
        int found = 0;
        for (int i = 0; i < place; i++) {
            if (reading.letterAt(i) == letter) {
                found++;
            }
        }
        return found;
    }

    public int where(int letter, int k) {
        if (!isLetter(letter)) {
            return NO_SUCH;
        }
        if (k < 0) {
            return BAD_NUMBER;
        }
        read();
        int found = 0;
        for (int place = 0; place < reading.size(); place++) {
            if (reading.letterAt(place) == letter) {
                if (found == k) {
                    return place;
                }
                found++;
            }
        }
        return NONE;
    }

    public int common(int i, int j) {
        read();
        if (!reading.hasPlace(i) || !reading.hasPlace(j)) {
            return NOT_NOW;
        }
        return reading.alikeFrom(i, j);
    }

    public int compare(int i, int j) {
        read();
        if (!reading.hasPlace(i) || !reading.hasPlace(j)) {
            return NOT_NOW;
        }
        if (i == j) {
            return 0;
        }
        // behind the end stands NONE, which is below every letter: a rest that ends comes ahead
        int alike = reading.alikeFrom(i, j);
        return reading.letterAt(i + alike) < reading.letterAt(j + alike) ? 1 : 2;
    }

    public int print(int place, int n) {
        if (n < 0) {
            return BAD_NUMBER;
        }
        if (!isStretch(place, n)) {
            return NOT_NOW;
        }
        int made = 0;
        for (int i = place; i < place + n; i++) {
            made = (PRINT_FACTOR * made + reading.letterAt(i) + 1) % PRINT_MODULUS;
        }
        return made;
    }

    public int repeat() {
        read();
        reading.seekTwice();
        return reading.longestTwice();
    }

    public int repeatAt() {
        read();
        reading.seekTwice();
        return reading.twiceAt();
    }

    // ---- phrases

    public int hit(int i) {
        if (i < 0) {
            return BAD_NUMBER;
        }
        if (sought.size() == 0) {
            return NOT_NOW;
        }
        read();
        return reading.hitAt(sought, i);
    }

    public int hits(int what) {
        if (what < 0 || what > 2) {
            return NO_SUCH;
        }
        if (what == 2) {
            return sought.size();
        }
        if (sought.size() == 0) {
            return NOT_NOW;
        }
        read();
        return what == 0 ? reading.hitsOf(sought) : reading.crossingsOf(sought);
    }

    // ---- how well

    public int gain(int left, int right) {
        if (!packing.has(left) || !packing.has(right)) {
            return NO_SUCH;
        }
        pairTable.tally(packing.sequence());
        int found = pairTable.countOf(left, right);
        if (found == 0) {
            return NOT_NOW;
        }
        return packing.ruleOf(left, right) == NONE ? found - PAIR_ROW : found;
    }

    public int best(int k) {
        if (k < 0 || k > MOST_REPLACES) {
            return BAD_NUMBER;
        }
        return search.leastSize(packing, k);
    }

    public int bits(int what) {
        if (what < 0 || what > 2) {
            return NO_FLOAT;
        }
        read();
        if (what == 0) {
            return bitsOf(perLetter(packing.size()));
        }
        return bitsOf(what == 1 ? perLetter(reading.depthSum()) : foldedLengths());
    }

    public int form(int i) {
        if (i < 0) {
            return BAD_NUMBER;
        }
        writeForm();
        return formBytes.get(i);
    }

    public int code(int sign, int what) {
        if (!packing.has(sign) || what < 0 || what > 1) {
            return NO_SUCH;
        }
        codes.make(packing.sequence());
        return what == 0 ? codes.lengthOf(sign) : codes.codeOf(sign);
    }

    public int coded(int i) {
        if (i < 0) {
            return BAD_NUMBER;
        }
        codes.make(packing.sequence());
        return codes.signAt(i);
    }

    // ---- back

    public int undo(int n) {
        if (n < 1 || n > past.size()) {
            return BAD_NUMBER;
        }
        past.goBack(n, packing);
        isRead = false;
        return past.size();
    }

    public int image(int i) {
        if (i < 0 || i >= IMAGES) {
            return NO_SUCH;
        }
        images[i].take(packing);
        imageMade[i] = true;
        return 0;
    }

    public int restore(int i) {
        if (i < 0 || i >= IMAGES) {
            return NO_SUCH;
        }
        if (!imageMade[i]) {
            return NO_IMAGE;
        }
        packing.take(images[i]);
        past.forget();
        isRead = false;
        return 0;
    }

    public int count(int what) {
        read();
        switch (what) {
            case 0:
                return reading.size();
            case 1:
                return packing.sequence().size();
            case 2:
                return packing.ruleCount();
            case 3:
                return packing.size();
            case 4:
                return greatestDepth();
            case 5:
                return tape.size();
            case 6:
                return past.size();
            case 7:
                pairTable.tally(packing.sequence());
                return pairTable.kinds();
            case 8:
                return packing.freeSign();
            case 9:
                writeForm();
                return formBytes.size();
            case 10:
                codes.make(packing.sequence());
                return codes.allBits();
            default:
                return NONE;
        }
    }

    // ---- what the calls share

    private static boolean isLetter(int sign) {
        return sign >= 0 && sign < LETTERS;
    }

    private void read() {
        if (isRead) {
            return;
        }
        words.learn(packing);
        reading.readRow(packing.sequence(), packing, words);
        isRead = true;
    }

    private int letterCount() {
        read();
        return reading.size();
    }

    private boolean isStretch(int place, int n) {
        read();
        return place >= 0 && place <= reading.size() && n <= reading.size() - place;
    }

    private void feedOne(int bytes) {
        for (int shift = 24; shift >= 0; shift -= 8) {
            tape.add((bytes >>> shift) & 255);
        }
    }

    private boolean isOnTape(int n) {
        return n >= 0 && n <= tape.size();
    }

    private int firstNoLetter(int n) {
        for (int i = 0; i < n; i++) {
            if (!isLetter(tape.get(i) - 'a')) {
                return i;
            }
        }
        return NONE;
    }

    private void takeLetters(int n, Row into) {
        for (int i = 0; i < n; i++) {
            into.add(tape.get(i) - 'a');
        }
    }

    private void endTape(int kind, int place) {
        tape.clear();
        faultKind = kind;
        faultPlace = place;
    }

    private int refuseTape(int kind, int place) {
        endTape(kind, place);
        return FAULTY - kind;
    }

    /** Replaces a pair that stands there, as a call of its own. */
    private int join(int left, int right) {
        if (packing.signFor(left, right) == NONE) {
            return TOO_MANY;
        }
        past.keep(packing);
        isRead = false;
        return packing.joinPair(left, right);
    }

    /** One round of packing: whether there was a pair to pick and a sign for it. */
    private boolean packBest() {
        pairTable.tally(packing.sequence());
        int pair = pairTable.ranked(0);
        return pair != NONE
            && packing.joinPair(PairTable.leftOf(pair), PairTable.rightOf(pair)) != NONE;
    }

    private int rowSign(int sign, int what) {
        if (what < FIRST_ROW_SIGN || what >= FIRST_ROW_SIGN + LONGEST_ROW) {
            return NO_SUCH;
        }
        return packing.rowOf(sign).get(what - FIRST_ROW_SIGN);
    }

    private int hitsWithin(int sign) {
        oneSign.clear();
        oneSign.add(sign);
        wordReading.readRow(oneSign, packing, words);
        return wordReading.hitsOf(sought);
    }

    private int greatestDepth() {
        int greatest = 0;
        for (int i = 0; i < packing.sequence().size(); i++) {
            greatest = Math.max(greatest, words.depthOf(packing.sequence().get(i)));
        }
        return greatest;
    }

    private float perLetter(int sum) {
        return reading.size() == 0 ? 0f : (float) sum / (float) reading.size();
    }

    private float foldedLengths() {
        float folded = 0f;
        for (int i = 0; i < packing.sequence().size(); i++) {
            float letters = (float) words.lettersOf(packing.sequence().get(i));
            folded = (folded * 0.5f + letters) * 0.25f;
        }
        return folded;
    }

    /** The bits of a float that is 0 or a normal one above it: doubling and halving lose nothing. */
    private static int bitsOf(float value) {
        if (value <= 0f) {
            return 0;
        }
        float scaled = value;
        int power = 127;
        while (scaled >= 2f && power < 254) {
            scaled = scaled * 0.5f;
            power++;
        }
        while (scaled < 1f && power > 1) {
            scaled = scaled * 2f;
            power--;
        }
        return (power << 23) + (int) ((scaled - 1f) * 8388608f);
    }

    private void writeForm() {
        read();
        formBytes.clear();
        formBytes.add(words.told());
        for (int i = 0; i < words.told(); i++) {
            int sign = words.toldAt(i);
            formBytes.add(sign);
            writeRow(packing.rowOf(sign));
        }
        writeRow(packing.sequence());
    }

    private void writeRow(Row row) {
        formBytes.add(row.size());
        for (int i = 0; i < row.size(); i++) {
            formBytes.add(row.get(i));
        }
    }

    /** A row of numbers (signs, letters, bytes) with a room that never grows. */
    private static final class Row {
        private final int[] items;
        private int size = 0;

        Row(int room) {
            items = new int[room < 0 ? 0 : room];
        }

        int size() {
            return size;
        }

        int get(int i) {
            return i >= 0 && i < size ? items[i] : NONE;
        }

        void set(int i, int item) {
            if (i >= 0 && i < size) {
                items[i] = item;
            }
        }

        void clear() {
            size = 0;
        }

        void add(int item) {
            if (size < items.length) {
                items[size] = item;
                size++;
            }
        }

        void addAt(int index, int item) {
            if (index < 0 || index > size || size >= items.length) {
                return;
            }
            moveTail(index, index + 1);
            items[index] = item;
        }

        void removeFrom(int index, int n) {
            if (index >= 0 && n >= 0 && n <= size - index) {
                moveTail(index + n, index);
            }
        }

        void take(Row other) {
            clear();
            for (int i = 0; i < other.size; i++) {
                add(other.items[i]);
            }
        }

        int howMany(int item) {
            int found = 0;
            for (int i = 0; i < size; i++) {
                if (items[i] == item) {
                    found++;
                }
            }
            return found;
        }

        boolean isPair(int left, int right) {
            return size == PAIR_ROW && items[0] == left && items[1] == right;
        }

        /** Each occurrence of a pair, from the left, becomes one sign. */
        void joinPairs(int left, int right, int sign) {
            int kept = 0;
            int i = 0;
            while (i < size) {
                boolean joined = i + 1 < size && items[i] == left && items[i + 1] == right;
                items[kept] = joined ? sign : items[i];
                kept++;
                i += joined ? 2 : 1;
            }
            size = kept;
        }

        void spreadAll(int sign, Row by) {
            // from the right, so that what has been put in is not gone through again
            for (int i = size - 1; i >= 0; i--) {
                if (items[i] == sign) {
                    spreadAt(i, by);
                }
            }
        }

        void spreadAt(int index, Row by) {
            if (index < 0 || index >= size || by.size > items.length - size + 1) {
                return;
            }
            moveTail(index + 1, index + by.size);
            for (int i = 0; i < by.size; i++) {
                items[index + i] = by.items[i];
            }
        }

        /** What stands from one index on stands from another one on. */
        private void moveTail(int from, int to) {
            if (from < 0 || from > size || to < 0 || to > items.length - (size - from)) {
                return;
            }
            System.arraycopy(items, from, items, to, size - from);
            size += to - from;
        }
    }

    /** The sequence and the rules: all that can be undone. */
    private static final class Packing {
        private final Row sequence = new Row(MOST_LETTERS);
        private final Row[] rules = new Row[RULES];
        private final Row noRow = new Row(0);

        Packing() {
            for (int i = 0; i < RULES; i++) {
                rules[i] = new Row(LONGEST_ROW);
            }
        }

        Row sequence() {
            return sequence;
        }

        Row rowOf(int sign) {
            return sign >= LETTERS && sign < SIGNS ? rules[sign - LETTERS] : noRow;
        }

        boolean isRule(int sign) {
            return rowOf(sign).size() > 0;
        }

        boolean has(int sign) {
            return isLetter(sign) || isRule(sign);
        }

        void clear() {
            sequence.clear();
            for (int i = 0; i < RULES; i++) {
                rules[i].clear();
            }
        }

        void take(Packing other) {
            sequence.take(other.sequence);
            for (int i = 0; i < RULES; i++) {
                rules[i].take(other.rules[i]);
            }
        }

        int ruleCount() {
            int found = 0;
            for (int i = 0; i < RULES; i++) {
                if (rules[i].size() > 0) {
                    found++;
                }
            }
            return found;
        }

        int size() {
            int sum = sequence.size();
            for (int i = 0; i < RULES; i++) {
                sum += rules[i].size();
            }
            return sum;
        }

        int usesOf(int sign) {
            int sum = sequence.howMany(sign);
            for (int i = 0; i < RULES; i++) {
                sum += rules[i].howMany(sign);
            }
            return sum;
        }

        int freeSign() {
            for (int i = 0; i < RULES; i++) {
                if (rules[i].size() == 0) {
                    return LETTERS + i;
                }
            }
            return NONE;
        }

        int ruleOf(int left, int right) {
            for (int i = 0; i < RULES; i++) {
                if (rules[i].isPair(left, right)) {
                    return LETTERS + i;
                }
            }
            return NONE;
        }

        /** The sign that a pair would become; NONE if no number is left for it. */
        int signFor(int left, int right) {
            int old = ruleOf(left, right);
            return old == NONE ? freeSign() : old;
        }

        int joinPair(int left, int right) {
            int sign = signFor(left, right);
            if (sign == NONE) {
                return NONE;
            }
            Row row = rowOf(sign);
            if (row.size() == 0) {
                row.add(left);
                row.add(right);
            }
            sequence.joinPairs(left, right, sign);
            return sign;
        }

        boolean canGiveUp(int sign) {
            int more = rowOf(sign).size() - 1;
            for (int i = 0; i < RULES; i++) {
                if (rules[i].size() + rules[i].howMany(sign) * more > LONGEST_ROW) {
                    return false;
                }
            }
            return true;
        }

        void giveUp(int sign) {
            Row row = rowOf(sign);
            sequence.spreadAll(sign, row);
            for (int i = 0; i < RULES; i++) {
                rules[i].spreadAll(sign, row);
            }
            row.clear();
        }

        /** The least rule that is used too little; NONE if there is none. */
        int leastIdle() {
            for (int sign = LETTERS; sign < SIGNS; sign++) {
                if (isRule(sign)) {
                    int uses = usesOf(sign);
                    if (uses == 0 || uses == 1 && canGiveUp(sign)) {
                        return sign;
                    }
                }
            }
            return NONE;
        }

        /** Makes a sign begin at a place: which one of the sequence (its size at the text's end). */
        int open(int place, Words words) {
            int index = 0;
            int begin = 0;
            for (int deep = 0; deep <= RULES; deep++) {
                while (index < sequence.size()
                    && begin + words.lettersOf(sequence.get(index)) <= place) {
                    begin += words.lettersOf(sequence.get(index));
                    index++;
                }
                if (begin == place || index >= sequence.size()) {
                    return index;
                }
                sequence.spreadAt(index, rowOf(sequence.get(index)));
            }
            return index;
        }
    }

    /** What the rules alone tell: their order in a form, the lengths and depths of words. */
    private static final class Words {
        private final int[] letters = new int[SIGNS];
        private final int[] depths = new int[SIGNS];
        private final Row order = new Row(RULES);
        private int reached = NONE;
        private int levels = 0;

        void learn(Packing packing) {
            order.clear();
            for (int sign = 0; sign < SIGNS; sign++) {
                letters[sign] = isLetter(sign) ? 1 : 0;
                depths[sign] = 0;
            }
            for (int i = 0; i < RULES; i++) {
                int sign = leastReady(packing);
                if (sign == NONE) {
                    return;
                }
                tell(sign, packing.rowOf(sign));
            }
        }

        int told() {
            return order.size();
        }

        int toldAt(int i) {
            return order.get(i);
        }

        int lettersOf(int sign) {
            return sign >= 0 && sign < SIGNS ? letters[sign] : 0;
        }

        int depthOf(int sign) {
            return sign >= 0 && sign < SIGNS ? depths[sign] : 0;
        }

        /** Goes from a sign down towards a letter of its word, so many levels at most. */
        void goDown(Packing packing, int sign, int letter, int most) {
            reached = sign;
            levels = 0;
            int rest = letter;
            while (levels < most && packing.isRule(reached)) {
                Row row = packing.rowOf(reached);
                int i = 0;
                while (i < row.size() - 1 && rest >= lettersOf(row.get(i))) {
                    rest -= lettersOf(row.get(i));
                    i++;
                }
                reached = row.get(i);
                levels++;
            }
        }

        int reached() {
            return reached;
        }

        int levelsGone() {
            return levels;
        }

        private int leastReady(Packing packing) {
            for (int sign = LETTERS; sign < SIGNS; sign++) {
                if (letters[sign] == 0 && packing.isRule(sign) && isReady(packing.rowOf(sign))) {
                    return sign;
                }
            }
            return NONE;
        }

        private boolean isReady(Row row) {
            for (int i = 0; i < row.size(); i++) {
                if (lettersOf(row.get(i)) == 0) {
                    return false;
                }
            }
            return true;
        }

        private void tell(int sign, Row row) {
            if (sign < 0 || sign >= SIGNS) {
                return;
            }
            int sum = 0;
            int deepest = 0;
            for (int i = 0; i < row.size(); i++) {
                sum += lettersOf(row.get(i));
                deepest = Math.max(deepest, depthOf(row.get(i)));
            }
            letters[sign] = sum;
            depths[sign] = deepest + 1;
            order.add(sign);
        }
    }

    /** The letters of a row of signs, each with where it lies in the row. */
    private static final class Reading {
        private final Row letters = new Row(MOST_LETTERS);
        private final Row homes = new Row(MOST_LETTERS);
        private final Row begins = new Row(MOST_LETTERS);
        private final Row depths = new Row(MOST_LETTERS);
        private final int[] alike = new int[MOST_LETTERS + 1];
        private int longest = 0;
        private int longestAt = NONE;

        void readRow(Row row, Packing packing, Words words) {
            letters.clear();
            homes.clear();
            begins.clear();
            depths.clear();
            for (int i = 0; i < row.size(); i++) {
                int begin = letters.size();
                int end = begin + words.lettersOf(row.get(i));
                for (int place = begin; place < end; place++) {
                    words.goDown(packing, row.get(i), place - begin, RULES);
                    letters.add(words.reached());
                    homes.add(i);
                    begins.add(begin);
                    depths.add(words.levelsGone());
                }
            }
        }

        int size() {
            return letters.size();
        }

        boolean hasPlace(int place) {
            return place >= 0 && place < letters.size();
        }

        int letterAt(int place) {
            return letters.get(place);
        }

        int homeAt(int place) {
            return homes.get(place);
        }

        int beginAt(int place) {
            return begins.get(place);
        }

        int depthAt(int place) {
            return depths.get(place);
        }

        int depthSum() {
            int sum = 0;
            for (int place = 0; place < depths.size(); place++) {
                sum += depths.get(place);
            }
            return sum;
        }

        int alikeFrom(int i, int j) {
            int last = letters.size() - Math.max(i, j);
            for (int n = 0; n < last; n++) {
                if (letters.get(i + n) != letters.get(j + n)) {
                    return n;
                }
            }
            return Math.max(last, 0);
        }

        /** Finds the longest word that stands at two places, and the least place of such a one. */
        void seekTwice() {
            longest = 0;
            longestAt = NONE;
            int size = letters.size();
            if (size >= alike.length) {
                return;
            }
            alike[size] = 0;
            for (int i = size - 2; i >= 0; i--) {
                // alike[j + 1] still tells of i + 1 and j + 1 when alike[j] comes to tell of i and j
                for (int j = i + 1; j < size; j++) {
                    alike[j] = letters.get(i) == letters.get(j) ? alike[j + 1] + 1 : 0;
                    if (alike[j] > 0 && alike[j] >= longest) {
                        longest = alike[j];
                        longestAt = i;
                    }
                }
            }
        }

        int longestTwice() {
            return longest;
        }

        int twiceAt() {
            return longestAt;
        }

        int hitsOf(Row phrase) {
            int found = 0;
            for (int place = 0; place < letters.size(); place++) {
                if (isHit(phrase, place)) {
                    found++;
                }
            }
            return found;
        }

        int crossingsOf(Row phrase) {
            int found = 0;
            for (int place = 0; place < letters.size(); place++) {
                if (isHit(phrase, place)
                    && homes.get(place) != homes.get(place + phrase.size() - 1)) {
                    found++;
                }
            }
            return found;
        }

        int hitAt(Row phrase, int i) {
            int found = 0;
            for (int place = 0; place < letters.size(); place++) {
                if (isHit(phrase, place)) {
                    if (found == i) {
                        return place;
                    }
                    found++;
                }
            }
            return NONE;
        }

        private boolean isHit(Row phrase, int place) {
            if (phrase.size() == 0 || phrase.size() > letters.size() - place) {
                return false;
            }
            for (int i = 0; i < phrase.size(); i++) {
                if (letters.get(place + i) != phrase.get(i)) {
                    return false;
                }
            }
            return true;
        }
    }

    /** The pairs that stand in a row of signs, each with its count. A pair is told as one number. */
    private static final class PairTable {
        private final int[] counts = new int[SIGNS * SIGNS];
        private final Row standing = new Row(MOST_LETTERS);

        static int pairOf(int left, int right) {
            boolean signs = left >= 0 && left < SIGNS && right >= 0 && right < SIGNS;
            return signs ? left * SIGNS + right : NONE;
        }

        static int leftOf(int pair) {
            return pair / SIGNS;
        }

        static int rightOf(int pair) {
            return pair % SIGNS;
        }

        void tally(Row row) {
            forget();
            int sharedAt = NONE;
            for (int i = 0; i + 1 < row.size(); i++) {
                int left = row.get(i);
                int right = row.get(i + 1);
                // only a pair of one sign twice can share a sign with its own next occurrence
                if (left != right) {
                    addOne(pairOf(left, right));
                } else if (sharedAt != i) {
                    addOne(pairOf(left, right));
                    sharedAt = i + 1;
                }
            }
        }

        int kinds() {
            return standing.size();
        }

        int pairAt(int i) {
            return standing.get(i);
        }

        int countOf(int left, int right) {
            return countOfPair(pairOf(left, right));
        }

        int countOfPair(int pair) {
            return pair >= 0 && pair < counts.length ? counts[pair] : 0;
        }

        /** The i-th pair in the order of picking; NONE if not so many come twice. */
        int ranked(int i) {
            if (i < 0 || i >= standing.size()) {
                return NONE;
            }
            int pair = NONE;
            for (int rank = 0; rank <= i; rank++) {
                pair = nextBehind(pair);
                if (pair == NONE) {
                    return NONE;
                }
            }
            return pair;
        }

        private int nextBehind(int pair) {
            int next = NONE;
            for (int i = 0; i < standing.size(); i++) {
                int other = standing.get(i);
                if (countOfPair(other) >= 2 && (pair == NONE || isAhead(pair, other))
                    && (next == NONE || isAhead(other, next))) {
                    next = other;
                }
            }
            return next;
        }

        private boolean isAhead(int pair, int other) {
            int more = countOfPair(pair) - countOfPair(other);
            return more > 0 || more == 0 && pair < other;
        }

        private void addOne(int pair) {
            if (pair < 0 || pair >= counts.length) {
                return;
            }
            if (counts[pair] == 0) {
                standing.add(pair);
            }
            counts[pair]++;
        }

        private void forget() {
            for (int i = 0; i < standing.size(); i++) {
                int pair = standing.get(i);
                if (pair >= 0 && pair < counts.length) {
                    counts[pair] = 0;
                }
            }
            standing.clear();
        }
    }

    /** Looks for the least size that a few replaces lead to. */
    private static final class Search {
        private final PairTable first = new PairTable();
        private final PairTable second = new PairTable();
        private final boolean[] hasRule = new boolean[SIGNS * SIGNS];
        private final Row trial = new Row(MOST_LETTERS);

        int leastSize(Packing packing, int replaces) {
            int size = packing.size();
            if (replaces < 1) {
                return size;
            }
            int free = RULES - packing.ruleCount();
            markRules(packing, true);
            first.tally(packing.sequence());
            int least = Math.min(size, size - greatestGain(first, free));
            if (replaces > 1) {
                for (int i = 0; i < first.kinds(); i++) {
                    least = Math.min(least, leastBehind(packing, first.pairAt(i), size, free));
                }
            }
            markRules(packing, false);
            return least;
        }

        private void markRules(Packing packing, boolean mark) {
            for (int sign = LETTERS; sign < SIGNS; sign++) {
                Row row = packing.rowOf(sign);
                if (row.size() == PAIR_ROW) {
                    int pair = PairTable.pairOf(row.get(0), row.get(1));
                    if (pair >= 0 && pair < hasRule.length) {
                        hasRule[pair] = mark;
                    }
                }
            }
        }

        private boolean isRuled(int pair) {
            return pair >= 0 && pair < hasRule.length && hasRule[pair];
        }

        private int gainOf(PairTable table, int pair) {
            int found = table.countOfPair(pair);
            return isRuled(pair) ? found : found - PAIR_ROW;
        }

        /** The greatest gain that one replace has, 0 if each has less. */
        private int greatestGain(PairTable table, int free) {
            int greatest = 0;
            for (int i = 0; i < table.kinds(); i++) {
                int pair = table.pairAt(i);
                if (free > 0 || isRuled(pair)) {
                    greatest = Math.max(greatest, gainOf(table, pair));
                }
            }
            return greatest;
        }

        /** The least size with a pair replaced first, and any other behind it or none. */
        private int leastBehind(Packing packing, int pair, int size, int free) {
            if (free == 0 && !isRuled(pair)) {
                return size;
            }
            int left = PairTable.leftOf(pair);
            int right = PairTable.rightOf(pair);
            trial.take(packing.sequence());
            trial.joinPairs(left, right, packing.signFor(left, right));
            second.tally(trial);
            int freeBehind = isRuled(pair) ? free : free - 1;
            return size - gainOf(first, pair) - greatestGain(second, freeBehind);
        }
    }

    /** Codes of as few bits as can be for the signs of a row. */
    private static final class Codes {
        private final int[] weights = new int[SIGNS];
        // a group is known by the least sign in it; one that has been put to another weighs 0
        private final int[] groups = new int[SIGNS];
        private final int[] groupWeights = new int[SIGNS];
        private final int[] lengths = new int[SIGNS];
        private final int[] codes = new int[SIGNS];
        private final Row order = new Row(SIGNS);

        void make(Row row) {
            int kinds = weigh(row);
            for (int i = 1; i < kinds; i++) {
                putTwoTogether();
            }
            if (kinds == 1) {
                lengthenGroup(lightestBut(NONE));
            }
            putInOrder();
            number();
        }

        int lengthOf(int sign) {
            return sign >= 0 && sign < SIGNS ? lengths[sign] : 0;
        }

        int codeOf(int sign) {
            return lengthOf(sign) > 0 ? codes[sign] : NONE;
        }

        int signAt(int i) {
            return order.get(i);
        }

        int allBits() {
            int sum = 0;
            for (int sign = 0; sign < SIGNS; sign++) {
                sum += weights[sign] * lengths[sign];
            }
            return sum;
        }

        private int weigh(Row row) {
            int kinds = 0;
            for (int sign = 0; sign < SIGNS; sign++) {
                weights[sign] = row.howMany(sign);
                groups[sign] = sign;
                groupWeights[sign] = weights[sign];
                lengths[sign] = 0;
                codes[sign] = 0;
                if (weights[sign] > 0) {
                    kinds++;
                }
            }
            return kinds;
        }

        private int lightestBut(int other) {
            int lightest = NONE;
            for (int group = 0; group < SIGNS; group++) {
                if (group != other && groupWeights[group] > 0
                    && (lightest == NONE || groupWeights[group] < groupWeights[lightest])) {
                    lightest = group;
                }
            }
            return lightest;
        }

        private void putTwoTogether() {
            int one = lightestBut(NONE);
            int two = lightestBut(one);
            if (one == NONE || two == NONE) {
                return;
            }
            lengthenGroup(one);
            lengthenGroup(two);
            int into = Math.min(one, two);
            int from = Math.max(one, two);
            groupWeights[into] += groupWeights[from];
            groupWeights[from] = 0;
            for (int sign = 0; sign < SIGNS; sign++) {
                if (groups[sign] == from) {
                    groups[sign] = into;
                }
            }
        }

        private void lengthenGroup(int group) {
            for (int sign = 0; sign < SIGNS; sign++) {
                if (groups[sign] == group) {
                    lengths[sign]++;
                }
            }
        }

        private void putInOrder() {
            order.clear();
            for (int length = 1; length < SIGNS; length++) {
                for (int sign = 0; sign < SIGNS; sign++) {
                    if (lengths[sign] == length) {
                        order.add(sign);
                    }
                }
            }
        }

        private void number() {
            int next = 0;
            int before = lengthOf(order.get(0));
            for (int i = 0; i < order.size(); i++) {
                int sign = order.get(i);
                next = next << (lengthOf(sign) - before);
                before = lengthOf(sign);
                if (sign >= 0 && sign < SIGNS) {
                    codes[sign] = next;
                }
                next++;
            }
        }
    }

    /** Reads a form from bytes, and tells the first fault in them. */
    private static final class FormReader {
        private final Packing packing = new Packing();
        private final int[] letters = new int[SIGNS];
        private Row bytes = new Row(0);
        private int end = 0;
        private int next = 0;
        private int kind = NO_FAULT;
        private int place = NONE;

        void readFrom(Row tape, int n) {
            start(tape, n);
            int rules = nextByte();
            if (isWhole() && rules > RULES) {
                blame(IMPOSSIBLE_BYTE);
            }
            for (int i = 0; i < rules && isWhole(); i++) {
                readRule();
            }
            if (isWhole()) {
                readSequence();
            }
            if (isWhole() && next < end) {
                next++;
                blame(SURPLUS_OR_SHORT);
            }
        }

        int faultKind() {
            return kind;
        }

        int faultPlace() {
            return place;
        }

        Packing packing() {
            return packing;
        }

        private void start(Row tape, int n) {
            packing.clear();
            for (int sign = 0; sign < SIGNS; sign++) {
                letters[sign] = isLetter(sign) ? 1 : 0;
            }
            bytes = tape;
            end = n;
            next = 0;
            kind = NO_FAULT;
            place = NONE;
        }

        private boolean isWhole() {
            return kind == NO_FAULT;
        }

        private int nextByte() {
            if (next >= end) {
                next++;
                blame(SURPLUS_OR_SHORT);
                return NONE;
            }
            int read = bytes.get(next);
            next++;
            return read;
        }

        /** The byte read last is at fault. */
        private void blame(int fault) {
            kind = fault;
            place = next - 1;
        }

        private int lettersOf(int sign) {
            return sign >= 0 && sign < SIGNS ? letters[sign] : 0;
        }

        private void readRule() {
            int sign = nextByte();
            if (!isWhole()) {
                return;
            }
            if (sign < LETTERS || sign >= SIGNS) {
                blame(IMPOSSIBLE_BYTE);
                return;
            }
            if (lettersOf(sign) > 0) {
                blame(UNTOLD_SIGN);
                return;
            }
            int length = nextByte();
            if (isWhole() && (length < SHORTEST_ROW || length > LONGEST_ROW)) {
                blame(IMPOSSIBLE_BYTE);
            }
            // known only from here on: a row can't have its own sign in it
            letters[sign] = readRow(packing.rowOf(sign), length);
        }

        private void readSequence() {
            int length = nextByte();
            if (isWhole() && length > MOST_LETTERS) {
                blame(IMPOSSIBLE_BYTE);
            }
            readRow(packing.sequence(), length);
        }

        /** How many letters the signs of the row have. */
        private int readRow(Row row, int length) {
            int sum = 0;
            for (int i = 0; i < length && isWhole(); i++) {
                int sign = nextByte();
                if (isWhole()) {
                    sum += lettersOf(sign);
                    if (lettersOf(sign) == 0) {
                        blame(UNTOLD_SIGN);
                    } else if (sum > MOST_LETTERS) {
                        blame(TOO_LONG);
                    }
                    row.add(sign);
                }
            }
            return sum;
        }
    }

    /** What stood there ahead of the latest calls, as many as can be undone. */
    private static final class Past {
        private final Packing[] kept = new Packing[MOST_UNDONE];
        private int next = 0;
        private int size = 0;

        Past() {
            for (int i = 0; i < MOST_UNDONE; i++) {
                kept[i] = new Packing();
            }
        }

        int size() {
            return size;
        }

        void forget() {
            size = 0;
        }

        void keep(Packing packing) {
            kept[next].take(packing);
            next = Math.floorMod(next + 1, MOST_UNDONE);
            size = Math.min(size + 1, MOST_UNDONE);
        }

        void goBack(int n, Packing into) {
            next = Math.floorMod(next - n, MOST_UNDONE);
            size = Math.max(size - n, 0);
            into.take(kept[next]);
        }
    }
}
