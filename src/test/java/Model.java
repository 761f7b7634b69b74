import java.util.ArrayList;
import java.util.Arrays;
import java.util.Collections;
import java.util.Comparator;
import java.util.List;
import java.util.TreeMap;
import java.util.TreeSet;

/**
 * The document once more, as plainly as it goes: lists, texts, and everything worked out anew for
 * each question. It shares no line with the program; RunsTest holds the two side by side.
 */
final class Model {
    /** The sequence and the rules; never changed once it is made known, only copied. */
    private static final class State {
        List<Integer> sequence = new ArrayList<>();
        TreeMap<Integer, List<Integer>> rules = new TreeMap<>();

        State copy() {
            State other = new State();
            other.sequence.addAll(sequence);
            for (int sign : rules.keySet()) {
                other.rules.put(sign, new ArrayList<>(rules.get(sign)));
            }
            return other;
        }
    }

    private State now = new State();
    private final List<State> past = new ArrayList<>();
    private final State[] images = new State[2];
    private List<Integer> tape = new ArrayList<>();
    private String phrase = "";
    private int fault = 0;
    private int faultPlace = -1;

    // ---- terms

    private static boolean letter(int sign) {
        return sign >= 0 && sign <= 25;
    }

    private boolean known(int sign) {
        return letter(sign) || now.rules.containsKey(sign);
    }

    private String wordOf(State s, int sign) {
        return letter(sign) ? "" + (char) ('a' + sign) : wordOf(s, s.rules.get(sign));
    }

    private String wordOf(State s, List<Integer> row) {
        StringBuilder word = new StringBuilder();
        for (int sign : row) {
            word.append(wordOf(s, sign));
        }
        return word.toString();
    }

    private String theText() {
        return wordOf(now, now.sequence);
    }

    private int depthOf(int sign) {
        int deepest = 0;
        if (!letter(sign)) {
            for (int part : now.rules.get(sign)) {
                deepest = Math.max(deepest, 1 + depthOf(part));
            }
        }
        return deepest;
    }

    private List<Integer> wayTo(int place) {
        List<Integer> way = new ArrayList<>();
        List<Integer> row = now.sequence;
        int rest = place;
        while (true) {
            for (int sign : row) {
                int length = wordOf(now, sign).length();
                if (rest < length) {
                    way.add(sign);
                    break;
                }
                rest -= length;
            }
            int last = way.get(way.size() - 1);
            if (letter(last)) {
                return way;
            }
            row = now.rules.get(last);
        }
    }

    private static int countOf(State s, int left, int right) {
        int found = 0;
        for (int i = 0; i + 1 < s.sequence.size(); i++) {
            if (s.sequence.get(i) == left && s.sequence.get(i + 1) == right) {
                found++;
                i++;
            }
        }
        return found;
    }

    private static List<int[]> allPairs(State s) {
        TreeSet<Integer> told = new TreeSet<>();
        for (int i = 0; i + 1 < s.sequence.size(); i++) {
            told.add(s.sequence.get(i) * 1000 + s.sequence.get(i + 1));
        }
        List<int[]> all = new ArrayList<>();
        for (int pair : told) {
            all.add(new int[] {pair / 1000, pair % 1000});
        }
        return all;
    }

    private static List<int[]> picks(State s) {
        List<int[]> order = new ArrayList<>();
        for (int[] pair : allPairs(s)) {
            if (countOf(s, pair[0], pair[1]) >= 2) {
                order.add(pair);
            }
        }
        order.sort(Comparator.comparingInt((int[] p) -> -countOf(s, p[0], p[1])));
        return order;
    }

    private static int sizeOf(State s) {
        int sum = s.sequence.size();
        for (List<Integer> row : s.rules.values()) {
            sum += row.size();
        }
        return sum;
    }

    private static int usesOf(State s, int sign) {
        int sum = Collections.frequency(s.sequence, sign);
        for (List<Integer> row : s.rules.values()) {
            sum += Collections.frequency(row, sign);
        }
        return sum;
    }

    private static int free(State s) {
        for (int sign = 26; sign <= 85; sign++) {
            if (!s.rules.containsKey(sign)) {
                return sign;
            }
        }
        return -1;
    }

    private static int signFor(State s, int left, int right) {
        for (int sign : s.rules.keySet()) {
            if (s.rules.get(sign).equals(List.of(left, right))) {
                return sign;
            }
        }
        return free(s);
    }

    /** Gives -1 if there is no number for the pair, and then changes nothing. */
    private static int replacePair(State s, int left, int right) {
        int sign = signFor(s, left, right);
        if (sign < 0) {
            return -1;
        }
        s.rules.putIfAbsent(sign, List.of(left, right));
        List<Integer> made = new ArrayList<>();
        for (int i = 0; i < s.sequence.size(); i++) {
            if (i + 1 < s.sequence.size() && s.sequence.get(i) == left
                && s.sequence.get(i + 1) == right) {
                made.add(sign);
                i++;
            } else {
                made.add(s.sequence.get(i));
            }
        }
        s.sequence = made;
        return sign;
    }

    private static List<Integer> spread(List<Integer> row, int sign, List<Integer> by) {
        List<Integer> made = new ArrayList<>();
        for (int part : row) {
            if (part == sign) {
                made.addAll(by);
            } else {
                made.add(part);
            }
        }
        return made;
    }

    private static boolean dropRule(State s, int sign) {
        List<Integer> by = s.rules.get(sign);
        for (List<Integer> row : s.rules.values()) {
            if (spread(row, sign, by).size() > 12) {
                return false;
            }
        }
        s.rules.remove(sign);
        s.sequence = spread(s.sequence, sign, by);
        for (int other : s.rules.keySet()) {
            s.rules.put(other, spread(s.rules.get(other), sign, by));
        }
        return true;
    }

    private static boolean trimOne(State s) {
        for (int sign : new ArrayList<>(s.rules.keySet())) {
            int uses = usesOf(s, sign);
            if (uses <= 1 && dropRule(s, sign)) {
                return true;
            }
        }
        return false;
    }

    /** Which sign of the sequence begins at the place, once it is opened. */
    private int openAt(int place) {
        int begin = 0;
        for (int i = 0; i < now.sequence.size(); i++) {
            if (begin == place) {
                return i;
            }
            int sign = now.sequence.get(i);
            int length = wordOf(now, sign).length();
            if (place < begin + length) {
                now.sequence.remove(i);
                now.sequence.addAll(i, now.rules.get(sign));
                return openAt(place);
            }
            begin += length;
        }
        return now.sequence.size();
    }

    private List<Integer> hitsIn(String word) {
        List<Integer> found = new ArrayList<>();
        for (int i = 0; !phrase.isEmpty() && i <= word.length(); i++) {
            if (word.startsWith(phrase, i)) {
                found.add(i);
            }
        }
        return found;
    }

    List<Integer> formNow() {
        List<Integer> told = new ArrayList<>();
        List<Integer> bytes = new ArrayList<>();
        bytes.add(now.rules.size());
        while (told.size() < now.rules.size()) {
            for (int sign : now.rules.keySet()) {
                List<Integer> row = now.rules.get(sign);
                boolean ready = row.stream().allMatch(x -> letter(x) || told.contains(x));
                if (!told.contains(sign) && ready) {
                    told.add(sign);
                    bytes.add(sign);
                    bytes.add(row.size());
                    bytes.addAll(row);
                    break;
                }
            }
        }
        bytes.add(now.sequence.size());
        bytes.addAll(now.sequence);
        return bytes;
    }

    private TreeMap<Integer, Integer> codeLengths() {
        TreeMap<Integer, Integer> lengths = new TreeMap<>();
        List<List<Integer>> groups = new ArrayList<>();
        for (int sign : new TreeSet<>(now.sequence)) {
            groups.add(new ArrayList<>(List.of(sign)));
            lengths.put(sign, 0);
        }
        if (groups.size() == 1) {
            lengths.put(groups.get(0).get(0), 1);
        }
        Comparator<List<Integer>> byWeight = Comparator.comparingInt(g ->
            g.stream().mapToInt(x -> Collections.frequency(now.sequence, x)).sum());
        while (groups.size() > 1) {
            groups.sort(byWeight.thenComparingInt(g -> Collections.min(g)));
            List<Integer> both = groups.remove(0);
            both.addAll(groups.remove(0));
            both.forEach(x -> lengths.merge(x, 1, Integer::sum));
            groups.add(both);
        }
        return lengths;
    }

    private List<Integer> codeOrder() {
        TreeMap<Integer, Integer> lengths = codeLengths();
        List<Integer> order = new ArrayList<>(lengths.keySet());
        order.sort(Comparator.comparingInt(lengths::get));
        return order;
    }

    private void before() {
        past.add(now.copy());
        if (past.size() > 10) {
            past.remove(0);
        }
    }

    private int emptied(int kind, int place, int answer) {
        tape = new ArrayList<>();
        fault = kind;
        faultPlace = place;
        return answer;
    }

    private int badLetter(int n) {
        for (int i = 0; i < n; i++) {
            if (tape.get(i) < 'a' || tape.get(i) > 'z') {
                return i;
            }
        }
        return -1;
    }

    // ---- texts

    int feed(int a, int b, int c, int d, int e) {
        if (tape.size() + 20 > 260) {
            return -4;
        }
        for (int x : new int[] {a, b, c, d, e}) {
            for (int k = 3; k >= 0; k--) {
                tape.add(Math.floorMod(Math.floorDiv(x, (int) Math.pow(256, k)), 256));
            }
        }
        return tape.size();
    }

    int text(int n) {
        if (n < 0 || n > tape.size()) {
            return -3;
        }
        if (n > 240) {
            return emptied(0, -1, -4);
        }
        if (badLetter(n) >= 0) {
            return emptied(1, badLetter(n), -31);
        }
        before();
        now = new State();
        for (int x : tape.subList(0, n)) {
            now.sequence.add(x - 'a');
        }
        return emptied(0, -1, n);
    }

    int phrase(int n) {
        if (n < 0 || n > tape.size()) {
            return -3;
        }
        if (n == 0 || n > 20) {
            return emptied(0, -1, -4);
        }
        if (badLetter(n) >= 0) {
            return emptied(1, badLetter(n), -31);
        }
        phrase = "";
        for (int x : tape.subList(0, n)) {
            phrase += (char) x;
        }
        return emptied(0, -1, hitsIn(theText()).size());
    }

    int load(int n) {
        if (n < 0 || n > tape.size()) {
            return -3;
        }
        State made = new State();
        int[] wrong = faultOf(tape.subList(0, n), made);
        if (wrong[0] != 0) {
            return emptied(wrong[0], wrong[1], -30 - wrong[0]);
        }
        before();
        now = made;
        return emptied(0, -1, theText().length());
    }

    private int[] faultOf(List<Integer> bytes, State made) {
        int n = bytes.size();
        int at = 0;
        if (n == 0) {
            return new int[] {1, 0};
        }
        int rules = bytes.get(at++);
        if (rules > 60) {
            return new int[] {2, 0};
        }
        for (int r = 0; r <= rules; r++) {
            int sign = -1;
            if (r < rules) {
                if (at == n) {
                    return new int[] {1, n};
                }
                sign = bytes.get(at++);
                if (sign < 26 || sign > 85) {
                    return new int[] {2, at - 1};
                }
                if (made.rules.containsKey(sign)) {
                    return new int[] {3, at - 1};
                }
            }
            if (at == n) {
                return new int[] {1, n};
            }
            int length = bytes.get(at++);
            if (r < rules ? length < 2 || length > 12 : length > 240) {
                return new int[] {2, at - 1};
            }
            List<Integer> row = new ArrayList<>();
            for (int i = 0; i < length; i++) {
                if (at == n) {
                    return new int[] {1, n};
                }
                int part = bytes.get(at++);
                if (!letter(part) && !made.rules.containsKey(part)) {
                    return new int[] {3, at - 1};
                }
                row.add(part);
                if (wordOf(made, row).length() > 240) {
                    return new int[] {4, at - 1};
                }
            }
            if (r < rules) {
                made.rules.put(sign, row);
            } else {
                made.sequence = row;
            }
        }
        return at < n ? new int[] {1, at} : new int[] {0, -1};
    }

    int fault(int what) {
        return what == 0 ? fault : what == 1 ? faultPlace : -1;
    }

    // ---- packed

    int step() {
        List<int[]> order = picks(now);
        if (order.isEmpty()) {
            return -1;
        }
        return replaced(order.get(0)[0], order.get(0)[1]);
    }

    private int replaced(int left, int right) {
        if (signFor(now, left, right) < 0) {
            return -4;
        }
        before();
        return replacePair(now, left, right);
    }

    int pack() {
        before();
        int times = 0;
        while (true) {
            List<int[]> order = picks(now);
            if (order.isEmpty() || replacePair(now, order.get(0)[0], order.get(0)[1]) < 0) {
                return times;
            }
            times++;
        }
    }

    int replace(int left, int right) {
        if (!known(left) || !known(right)) {
            return -2;
        }
        return countOf(now, left, right) == 0 ? -5 : replaced(left, right);
    }

    int drop(int sign) {
        if (!now.rules.containsKey(sign)) {
            return -2;
        }
        State ahead = now.copy();
        if (!dropRule(now, sign)) {
            return -5;
        }
        State behind = now;
        now = ahead;
        before();
        now = behind;
        return sizeOf(now);
    }

    int trim() {
        before();
        int dropped = 0;
        while (trimOne(now)) {
            dropped++;
        }
        return dropped;
    }

    int unpack() {
        String all = theText();
        before();
        now = new State();
        for (char c : all.toCharArray()) {
            now.sequence.add(c - 'a');
        }
        return all.length();
    }

    int put(int place, int letter) {
        if (!letter(letter)) {
            return -2;
        }
        if (place < 0 || place >= theText().length()) {
            return -5;
        }
        before();
        openAt(place + 1);
        int i = openAt(place);
        return now.sequence.set(i, letter);
    }

    int cut(int place, int n) {
        if (n < 1) {
            return -3;
        }
        if (place < 0 || (long) place + n > theText().length()) {
            return -5;
        }
        before();
        openAt(place + n);
        int from = openAt(place);
        int to = openAt(place + n);
        now.sequence.subList(from, to).clear();
        return theText().length();
    }

    int insert(int place, int letter) {
        if (!letter(letter)) {
            return -2;
        }
        if (place < 0 || place > theText().length()) {
            return -5;
        }
        if (theText().length() == 240) {
            return -4;
        }
        before();
        now.sequence.add(openAt(place), letter);
        return theText().length();
    }

    // ---- what there is

    private static int item(List<Integer> row, int i) {
        return i < row.size() ? row.get(i) : -1;
    }

    int sign(int i) {
        return i < 0 ? -3 : item(now.sequence, i);
    }

    int rule(int sign, int what) {
        if (!known(sign)) {
            return -2;
        }
        List<Integer> row = letter(sign) ? List.of() : now.rules.get(sign);
        if (what >= 10 && what <= 21) {
            return item(row, what - 10);
        }
        return switch (what) {
            case 0 -> row.size();
            case 1 -> wordOf(now, sign).length();
            case 2 -> depthOf(sign);
            case 3 -> usesOf(now, sign);
            case 4 -> Collections.frequency(now.sequence, sign);
            case 5 -> hitsIn(wordOf(now, sign)).size();
            default -> -2;
        };
    }

    int word(int sign, int i) {
        if (!known(sign)) {
            return -2;
        }
        if (i < 0) {
            return -3;
        }
        String word = wordOf(now, sign);
        return i < word.length() ? word.charAt(i) - 'a' : -1;
    }

    int pairs(int left, int right) {
        return known(left) && known(right) ? countOf(now, left, right) : -2;
    }

    int pick(int i) {
        if (i < 0) {
            return -3;
        }
        List<int[]> order = picks(now);
        return i < order.size() ? 100 * order.get(i)[0] + order.get(i)[1] : -1;
    }

    // ---- asked where it is packed

    int at(int place) {
        if (place < 0) {
            return -3;
        }
        return place < theText().length() ? theText().charAt(place) - 'a' : -1;
    }

    int within(int place, int what) {
        if (what < 0 || what > 2) {
            return -2;
        }
        if (place < 0) {
            return -3;
        }
        if (place >= theText().length()) {
            return -1;
        }
        if (what == 2) {
            return wayTo(place).size() - 1;
        }
        int i = 0;
        while (wordOf(now, now.sequence.subList(0, i + 1)).length() <= place) {
            i++;
        }
        return what == 0 ? i : wordOf(now, now.sequence.subList(0, i)).length();
    }

    int way(int place, int k) {
        if (place < 0 || k < 0) {
            return -3;
        }
        return place < theText().length() ? item(wayTo(place), k) : -1;
    }

    int ahead(int letter, int place) {
        if (!letter(letter)) {
            return -2;
        }
        if (place < 0 || place > theText().length()) {
            return -5;
        }
        return (int) theText().substring(0, place).chars().filter(c -> c - 'a' == letter).count();
    }

    int where(int letter, int k) {
        if (!letter(letter)) {
            return -2;
        }
        if (k < 0) {
            return -3;
        }
        int place = theText().indexOf('a' + letter);
        for (int i = 0; i < k && place >= 0; i++) {
            place = theText().indexOf('a' + letter, place + 1);
        }
        return place;
    }

    private boolean noPlace(int i) {
        return i < 0 || i >= theText().length();
    }

    int common(int i, int j) {
        if (noPlace(i) || noPlace(j)) {
            return -5;
        }
        int wrong = Arrays.mismatch(theText().substring(i).toCharArray(),
            theText().substring(j).toCharArray());
        return wrong < 0 ? theText().length() - i : wrong;
    }

    int compare(int i, int j) {
        if (noPlace(i) || noPlace(j)) {
            return -5;
        }
        int order = theText().substring(i).compareTo(theText().substring(j));
        return order == 0 ? 0 : order < 0 ? 1 : 2;
    }

    int print(int place, int n) {
        if (n < 0) {
            return -3;
        }
        if (place < 0 || (long) place + n > theText().length()) {
            return -5;
        }
        long made = 0;
        for (char c : theText().substring(place, place + n).toCharArray()) {
            made = (31 * made + (c - 'a') + 1) % 1000003;
        }
        return (int) made;
    }

    private int twice(int length) {
        String all = theText();
        for (int i = 0; i + length <= all.length(); i++) {
            if (all.indexOf(all.substring(i, i + length), i + 1) >= 0) {
                return i;
            }
        }
        return -1;
    }

    int repeat() {
        int length = 0;
        while (twice(length + 1) >= 0) {
            length++;
        }
        return length;
    }

    int repeatAt() {
        return repeat() == 0 ? -1 : twice(repeat());
    }

    // ---- phrases

    int hit(int i) {
        if (i < 0) {
            return -3;
        }
        return phrase.isEmpty() ? -5 : item(hitsIn(theText()), i);
    }

    int hits(int what) {
        if (what < 0 || what > 2) {
            return -2;
        }
        if (what == 2) {
            return phrase.length();
        }
        if (phrase.isEmpty()) {
            return -5;
        }
        int sum = hitsIn(theText()).size();
        if (what == 1) {
            for (int sign : now.sequence) {
                sum -= hitsIn(wordOf(now, sign)).size();
            }
        }
        return sum;
    }

    // ---- how well

    int gain(int left, int right) {
        if (!known(left) || !known(right)) {
            return -2;
        }
        if (countOf(now, left, right) == 0) {
            return -5;
        }
        boolean ruled = now.rules.containsValue(List.of(left, right));
        return countOf(now, left, right) - (ruled ? 0 : 2);
    }

    int best(int k) {
        return k < 0 || k > 2 ? -3 : leastOf(now, k);
    }

    private static int leastOf(State s, int k) {
        int least = sizeOf(s);
        if (k > 0) {
            for (int[] pair : allPairs(s)) {
                State other = s.copy();
                if (replacePair(other, pair[0], pair[1]) >= 0) {
                    least = Math.min(least, leastOf(other, k - 1));
                }
            }
        }
        return least;
    }

    int bits(int what) {
        if (what < 0 || what > 2) {
            return -2147483648;
        }
        int letters = theText().length();
        if (letters == 0) {
            return 0;
        }
        float f = 0f;
        if (what == 2) {
            for (int sign : now.sequence) {
                f = (f * 0.5f + (float) wordOf(now, sign).length()) * 0.25f;
            }
        } else {
            int sum = 0;
            for (int place = 0; place < letters; place++) {
                sum += what == 1 ? wayTo(place).size() - 1 : 0;
            }
            f = (float) (what == 1 ? sum : sizeOf(now)) / (float) letters;
        }
        return Float.floatToIntBits(f);
    }

    int form(int i) {
        return i < 0 ? -3 : item(formNow(), i);
    }

    int code(int sign, int what) {
        if (!known(sign) || what < 0 || what > 1) {
            return -2;
        }
        TreeMap<Integer, Integer> lengths = codeLengths();
        if (!lengths.containsKey(sign)) {
            return what == 0 ? 0 : -1;
        }
        if (what == 0) {
            return lengths.get(sign);
        }
        int made = 0;
        List<Integer> order = codeOrder();
        for (int i = 0; order.get(i) != sign; i++) {
            made = (made + 1) << (lengths.get(order.get(i + 1)) - lengths.get(order.get(i)));
        }
        return made;
    }

    int coded(int i) {
        return i < 0 ? -3 : item(codeOrder(), i);
    }

    // ---- back

    int undo(int n) {
        if (n < 1 || n > past.size()) {
            return -3;
        }
        for (int i = 0; i < n; i++) {
            now = past.remove(past.size() - 1);
        }
        return past.size();
    }

    int image(int i) {
        if (i < 0 || i > 1) {
            return -2;
        }
        images[i] = now.copy();
        return 0;
    }

    int restore(int i) {
        if (i < 0 || i > 1) {
            return -2;
        }
        if (images[i] == null) {
            return -6;
        }
        now = images[i].copy();
        past.clear();
        return 0;
    }

    int count(int what) {
        switch (what) {
            case 0: return theText().length();
            case 1: return now.sequence.size();
            case 2: return now.rules.size();
            case 3: return sizeOf(now);
            case 4: return now.sequence.stream().mapToInt(this::depthOf).max().orElse(0);
            case 5: return tape.size();
            case 6: return past.size();
            case 7: return allPairs(now).size();
            case 8: return free(now);
            case 9: return formNow().size();
            case 10:
                TreeMap<Integer, Integer> lengths = codeLengths();
                return now.sequence.stream().mapToInt(lengths::get).sum();
            default: return -1;
        }
    }
}
