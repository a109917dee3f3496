import java.math.BigInteger;
import java.util.ArrayList;
import java.util.Arrays;
import java.util.Comparator;
import java.util.List;
import java.util.regex.Matcher;
import java.util.regex.Pattern;

/**
 * The document's words once more, by other ways than the program's and with no thought of speed:
 * exact fractions, whole lists of the stacks in thought, regular expressions for what is told.
 */
final class Model {
    private static final int NONE = -1, BAD = -2, STATE = -3, FULL = -4, NOT = -5;
    private static final int NOTHING = -11, BEYOND = -13, BELOW = -14;
    private static final long NO = Long.MIN_VALUE;
    private static final List<String> WORDS = List.of("glass", "thick", "smoked", "mirror", "dyed", "clear");
    private static final Pattern TOLD = Pattern.compile(
        "[a-z]* [0-9] (10|[0-9])(,(10|[0-9])){4}(;[a-z]* [0-9] (10|[0-9])(,(10|[0-9])){4})*");
    private static final Pattern CLAUSE_WORD = Pattern.compile("(?:^|;)([a-z]*)");

    record Fraction(BigInteger above, BigInteger below) {
        static Fraction of(long above, long below) {
            return new Fraction(BigInteger.valueOf(above), BigInteger.valueOf(below)).lowest();
        }

        Fraction lowest() {
            BigInteger common = above.gcd(below);
            return new Fraction(above.divide(common), below.divide(common));
        }

        Fraction times(Fraction other) {
            return new Fraction(above.multiply(other.above), below.multiply(other.below)).lowest();
        }

        Fraction plus(Fraction other) {
            return new Fraction(above.multiply(other.below).add(other.above.multiply(below)),
                below.multiply(other.below)).lowest();
        }

        int cut() {
            return above.divide(below).intValueExact();
        }

        long part(int part) {
            return (part == 0 ? above : below).longValueExact();
        }

        int against(Fraction other) {
            return above.multiply(other.below).compareTo(other.above.multiply(below));
        }
    }

    static final class Sheet {
        int kind, figure;
        int[] numbers = new int[5];

        Sheet copy() {
            Sheet copy = new Sheet();
            copy.kind = kind;
            copy.figure = figure;
            copy.numbers = numbers.clone();
            return copy;
        }

        int lets(int band) {
            int under = switch (kind) {
                case 0 -> 10 * numbers[band];
                case 1, 4 -> numbers[band] * numbers[band];
                case 2, 3 -> numbers[band] * figure;
                default -> 10 * Arrays.stream(numbers).max().getAsInt();
            };
            if (kind == 3) return 100 - under;
            return kind == 4 && figure % 5 == band ? 0 : under;
        }
    }

    private static final class State {
        List<Sheet> sheets = new ArrayList<>();
        List<List<Integer>> stacks = new ArrayList<>();
        int[][] powers = {{9, 9, 9, 9, 9}, {9, 9, 9, 9, 9}, {9, 9, 9, 9, 9}};
        int[][] weights = {{0, 0, 1, 2, 3}, {0, 1, 3, 1, 0}, {4, 2, 0, 0, 0}};
        int[] wish = new int[3];

        State copy() {
            State copy = new State();
            for (Sheet sheet : sheets) copy.sheets.add(sheet.copy());
            for (List<Integer> stack : stacks) copy.stacks.add(new ArrayList<>(stack));
            for (int i = 0; i < 3; i++) {
                copy.powers[i] = powers[i].clone();
                copy.weights[i] = weights[i].clone();
            }
            copy.wish = wish.clone();
            return copy;
        }
    }

    private State now = new State();
    private State image = null;
    private String tape = "";
    private String paper = "";
    private final int[][] lists = new int[4][];

    // ---- sheets, stacks

    int feed(int letter) {
        if (letter < 1 || letter > 127) return BAD;
        if (tape.length() == 80) return FULL;
        tape += (char) letter;
        return tape.length();
    }

    /** The first place from the left at which the text can't go on; -1: it is whole. */
    static int faultOfSheets(String text) {
        int wordFault = Integer.MAX_VALUE;
        Matcher words = CLAUSE_WORD.matcher(text);
        while (words.find()) {
            if (!WORDS.contains(words.group(1))) wordFault = Math.min(wordFault, words.start(1));
        }
        int fault = firstStop(TOLD, text);
        if (wordFault <= text.length() && (fault == -1 || wordFault <= fault)) return wordFault;
        return fault;
    }

    static int faultOfStack(String text, int sheets) {
        String letters = sheets == 0 ? "" : "|[a-" + (char) ('a' + sheets - 1) + "]{1,6}";
        return firstStop(Pattern.compile("-" + letters), text);
    }

    private static int firstStop(Pattern pattern, String text) {
        for (int i = 0; i < text.length(); i++) {
            Matcher matcher = pattern.matcher(text.substring(0, i + 1));
            if (!matcher.matches() && !matcher.hitEnd()) return i;
        }
        return pattern.matcher(text).matches() ? -1 : text.length();
    }

    int sheets() {
        String text = tape;
        tape = "";
        int fault = faultOfSheets(text);
        if (fault >= 0) return -100 - fault;
        String[] clauses = text.split(";");
        if (now.sheets.size() + clauses.length > 8) return FULL;
        for (String clause : clauses) {
            String[] parts = clause.split(" ");
            Sheet sheet = new Sheet();
            sheet.kind = WORDS.indexOf(parts[0]);
            sheet.figure = Integer.parseInt(parts[1]);
            sheet.numbers = Arrays.stream(parts[2].split(",")).mapToInt(Integer::parseInt).toArray();
            now.sheets.add(sheet);
        }
        return now.sheets.size();
    }

    int number(int sheet, int band, int v) {
        if (noSheet(sheet) || band < 0 || band > 4) return NONE;
        if (v < 0 || v > 10) return BAD;
        int was = now.sheets.get(sheet).numbers[band];
        now.sheets.get(sheet).numbers[band] = v;
        return was;
    }

    int becomes(int sheet, int kind, int figure) {
        if (noSheet(sheet) || kind < 0 || kind > 5) return NONE;
        if (figure < 0 || figure > 9) return BAD;
        Sheet it = now.sheets.get(sheet);
        int was = 10 * it.kind + it.figure;
        it.kind = kind;
        it.figure = figure;
        return was;
    }

    int sheet(int sheet, int what) {
        if (noSheet(sheet)) return NONE;
        Sheet it = now.sheets.get(sheet);
        if (what == 0) return it.kind;
        if (what == 1) return it.figure;
        if (what >= 10 && what <= 14) return it.numbers[what - 10];
        if (what >= 20 && what <= 24) return it.lets(what - 20);
        return NONE;
    }

    int stack() {
        String text = tape;
        tape = "";
        int fault = faultOfStack(text, now.sheets.size());
        if (fault >= 0) return -100 - fault;
        if (now.stacks.size() == 6) return FULL;
        List<Integer> stack = new ArrayList<>();
        for (char c : text.toCharArray()) if (c != '-') stack.add(c - 'a');
        now.stacks.add(stack);
        return now.stacks.size() - 1;
    }

    int lay(int stack, int sheet) {
        if (noStack(stack) || noSheet(sheet)) return NONE;
        if (now.stacks.get(stack).size() == 6) return FULL;
        now.stacks.get(stack).add(sheet);
        return now.stacks.get(stack).size();
    }

    int take(int stack) {
        if (noStack(stack)) return NONE;
        List<Integer> it = now.stacks.get(stack);
        return it.isEmpty() ? STATE : it.remove(it.size() - 1);
    }

    int at(int stack, int place) {
        if (noStack(stack)) return NONE;
        List<Integer> it = now.stacks.get(stack);
        if (place == -1) return it.size();
        return place < 0 || place >= it.size() ? NONE : it.get(place);
    }

    int power(int lamp, int band, int v) {
        return turn(now.powers, lamp, band, v);
    }

    int weight(int eye, int band, int v) {
        return turn(now.weights, eye, band, v);
    }

    private static int turn(int[][] table, int row, int band, int v) {
        if (notBelow(row, 3) || notBelow(band, 5)) return NONE;
        if (notBelow(v, 10)) return BAD;
        int was = table[row][band];
        table[row][band] = v;
        return was;
    }

    private static boolean notBelow(int i, int count) {
        return i < 0 || i >= count;
    }

    private boolean noSheet(int sheet) {
        return notBelow(sheet, now.sheets.size());
    }

    private boolean noStack(int stack) {
        return notBelow(stack, now.stacks.size());
    }

    // ---- what is seen

    private Fraction comes(List<Integer> pile, int band) {
        Fraction all = Fraction.of(1, 1);
        for (int sheet : pile) all = all.times(Fraction.of(now.sheets.get(sheet).lets(band), 100));
        return all;
    }

    private Fraction seen(List<Integer> pile, int lamp, int n, int eye) {
        Fraction together = Fraction.of(0, 1);
        for (int band = 0; band < 5; band++) {
            Fraction power = Fraction.of(now.powers[lamp][band] * (band < 2 ? 10 - n : 10), 10);
            together = together.plus(power.times(comes(pile, band)).times(Fraction.of(now.weights[eye][band], 1)));
        }
        return together;
    }

    private int[] shades(List<Integer> pile, int lamp, int n) {
        int[] shades = new int[3];
        for (int eye = 0; eye < 3; eye++) shades[eye] = seen(pile, lamp, n, eye).cut();
        return shades;
    }

    private static int differ(int[] one, int[] other) {
        int all = 0;
        for (int i = 0; i < 3; i++) all += Math.max(one[i], other[i]) - Math.min(one[i], other[i]);
        return all;
    }

    long through(int stack, int band, int part) {
        if (noStack(stack) || notBelow(band, 5) || notBelow(part, 2)) return NO;
        return comes(now.stacks.get(stack), band).part(part);
    }

    long sees(int stack, int lamp, int n, int eye, int part) {
        if (shade(stack, lamp, n, eye) == NONE || notBelow(part, 2)) return NO;
        return seen(now.stacks.get(stack), lamp, n, eye).part(part);
    }

    int shade(int stack, int lamp, int n, int eye) {
        if (noStack(stack) || notBelow(lamp, 3) || notBelow(n, 11) || notBelow(eye, 3)) return NONE;
        return seen(now.stacks.get(stack), lamp, n, eye).cut();
    }

    int alike(int one, int other, int lamp) {
        if (noStack(one) || noStack(other) || notBelow(lamp, 3)) return NONE;
        for (int eye = 0; eye < 3; eye++) {
            if (!seen(now.stacks.get(one), lamp, 0, eye).equals(seen(now.stacks.get(other), lamp, 0, eye))) return 0;
        }
        return 1;
    }

    int falsePairs(int lamp, int what) {
        if (notBelow(lamp, 3) || notBelow(what, 2)) return NONE;
        List<Integer> pairs = new ArrayList<>();
        for (int one = 0; one < now.stacks.size(); one++) {
            for (int other = one + 1; other < now.stacks.size(); other++) {
                int by = 0;
                for (int each = 0; each < 3; each++) by += alike(one, other, each);
                if (alike(one, other, lamp) == 1 && by < 3) pairs.add(10 * one + other);
            }
        }
        if (what == 0) return pairs.size();
        return pairs.stream().min(Comparator.naturalOrder()).orElse(NOT);
    }

    int ranked(int lamp, int place) {
        if (notBelow(lamp, 3) || notBelow(place, now.stacks.size())) return NONE;
        List<Integer> order = new ArrayList<>();
        List<Fraction> bright = new ArrayList<>();
        for (List<Integer> stack : now.stacks) {
            order.add(order.size());
            Fraction all = Fraction.of(0, 1);
            for (int eye = 0; eye < 3; eye++) all = all.plus(seen(stack, lamp, 0, eye));
            bright.add(all);
        }
        order.sort((a, b) -> bright.get(b).against(bright.get(a)) != 0 ? bright.get(b).against(bright.get(a)) : a - b);
        return order.get(place);
    }

    // ---- wishes

    int wish(int red, int green, int blue) {
        int[] wish = {red, green, blue};
        for (int shade : wish) if (notBelow(shade, 10000)) return BAD;
        now.wish = wish;
        return 1;
    }

    /** All stacks in thought of so many sheets at most, in no order that matters. */
    private List<List<Integer>> inThought(int most) {
        List<List<Integer>> all = new ArrayList<>();
        all.add(List.of());
        for (int i = 0; i < all.size(); i++) {
            List<Integer> it = all.get(i);
            if (it.size() == most) continue;
            for (int sheet = now.sheets.size() - 1; sheet >= (it.isEmpty() ? 0 : it.get(it.size() - 1)); sheet--) {
                List<Integer> longer = new ArrayList<>(it);
                longer.add(sheet);
                all.add(longer);
            }
        }
        return all;
    }

    private static int byNumbers(List<Integer> one, List<Integer> other) {
        if (one.size() != other.size()) return one.size() - other.size();
        for (int i = 0; i < one.size(); i++) {
            if (!one.get(i).equals(other.get(i))) return one.get(i) - other.get(i);
        }
        return 0;
    }

    int fewest(int lamp, int what) {
        if (notBelow(lamp, 3) || notBelow(what, 2) && notBelow(what - 10, 4)) return NONE;
        List<List<Integer>> fit = new ArrayList<>();
        for (List<Integer> pile : inThought(4)) if (differ(shades(pile, lamp, 0), now.wish) == 0) fit.add(pile);
        if (fit.isEmpty()) return NOT;
        fit.sort(Model::byNumbers);
        List<Integer> best = fit.get(0);
        if (what == 0) return best.size();
        if (what == 1) return (int) fit.stream().filter(pile -> pile.size() == best.size()).count();
        return what - 10 < best.size() ? best.get(what - 10) : NOT;
    }

    int nearest(int lamp, int what) {
        if (notBelow(lamp, 3) || notBelow(what, 2) && notBelow(what - 10, 3)) return NONE;
        List<List<Integer>> all = inThought(3);
        all.sort(Model::byNumbers);
        List<Integer> best = all.get(0);
        for (List<Integer> pile : all) {
            if (differ(shades(pile, lamp, 0), now.wish) < differ(shades(best, lamp, 0), now.wish)) best = pile;
        }
        if (what == 0) return best.size();
        if (what == 1) return differ(shades(best, lamp, 0), now.wish);
        return what - 10 < best.size() ? best.get(what - 10) : NOT;
    }

    int without(int stack, int lamp, int what) {
        if (noStack(stack) || notBelow(lamp, 3) || notBelow(what, 2)) return NONE;
        List<Integer> pile = now.stacks.get(stack);
        if (pile.isEmpty()) return STATE;
        int[] by = new int[pile.size()];
        for (int i = 0; i < by.length; i++) {
            List<Integer> less = new ArrayList<>(pile);
            less.remove(i);
            by[i] = differ(shades(less, lamp, 0), shades(pile, lamp, 0));
        }
        int most = Arrays.stream(by).max().getAsInt();
        int place = 0;
        while (by[place] != most) place++;
        return what == 0 ? place : most;
    }

    int dark(int stack, int lamp, int sheet) {
        if (noStack(stack) || notBelow(lamp, 3) || noSheet(sheet)) return NONE;
        List<Integer> pile = new ArrayList<>(now.stacks.get(stack));
        for (int more = 0; pile.size() <= 8; more++) {
            if (differ(shades(pile, lamp, 0), new int[3]) == 0) return more;
            pile.add(sheet);
        }
        return NOT;
    }

    int fades(int stack, int lamp) {
        if (noStack(stack) || notBelow(lamp, 3)) return NONE;
        List<Integer> pile = now.stacks.get(stack);
        for (int n = 1; n <= 10; n++) {
            if (!Arrays.equals(shades(pile, lamp, n), shades(pile, lamp, 0))) return n;
        }
        return NOT;
    }

    // ---- what it was, odds, spelled, judged

    int was(int sheet, int stack, int lamp, int list, int what) {
        if (noSheet(sheet) || noStack(stack) || notBelow(lamp, 3) || notBelow(list, 4) || notBelow(what, 2)) return NONE;
        if (lists[list] == null) return NOTHING;
        if (lists[list].length < 3) return BEYOND;
        int[] told = Arrays.copyOf(lists[list], 3);
        Sheet it = now.sheets.get(sheet);
        int bits = 0;
        for (int i = 0; i < (what == 0 ? 6 : 10); i++) {
            Sheet other = it.copy();
            if (what == 0) other.kind = i; else other.figure = i;
            now.sheets.set(sheet, other);
            if (Arrays.equals(shades(now.stacks.get(stack), lamp, 0), told)) bits += 1 << i;
        }
        now.sheets.set(sheet, it);
        return bits;
    }

    long odds(int k, int seed, int m, int lamp, int eye, int v, int part) {
        if (notBelow(k, 5) || m < 1 || m > 20 || notBelow(lamp, 3) || notBelow(eye, 3)) return NO;
        if (notBelow(part, 2) || now.sheets.isEmpty()) return NO;
        int good = 0;
        for (int i = 0; i < m; i++) {
            BigInteger z = BigInteger.valueOf((int) ((long) seed + i));
            List<Integer> pile = new ArrayList<>();
            for (int j = 0; j < k; j++) {
                z = z.multiply(BigInteger.valueOf(1103515245)).add(BigInteger.valueOf(12345));
                long draw = z.mod(BigInteger.ONE.shiftLeft(31)).longValueExact() / 65536;
                pile.add((int) (draw % now.sheets.size()));
            }
            if (seen(pile, lamp, 0, eye).cut() >= v) good++;
        }
        return Fraction.of(good, m).part(part);
    }

    int spell(int stack) {
        if (noStack(stack)) return NONE;
        List<String> words = new ArrayList<>();
        for (int sheet : now.stacks.get(stack)) {
            words.add(WORDS.get(now.sheets.get(sheet).kind) + now.sheets.get(sheet).figure);
        }
        paper = words.isEmpty() ? "-" : String.join("/", words);
        return paper.length();
    }

    int paper(int i) {
        return notBelow(i, paper.length()) ? NONE : paper.charAt(i);
    }

    int judge(int list, int lamp) {
        if (notBelow(list, 4) || notBelow(lamp, 3)) return NONE;
        if (lists[list] == null) return NOTHING;
        for (int i = 0; i < lists[list].length; i++) {
            if (noStack(i / 3)) return i;
            if (shades(now.stacks.get(i / 3), lamp, 0)[i % 3] != lists[list][i]) return i;
        }
        return NOT;
    }

    int change(int list) {
        if (notBelow(list, 4)) return NONE;
        if (lists[list] == null) return NOTHING;
        int done = 0;
        for (int row = 0; row < lists[list].length / 3; row++) {
            int[] it = Arrays.copyOfRange(lists[list], 3 * row, 3 * row + 3);
            if (number(it[0], it[1], it[2]) >= 0) done++;
        }
        return done;
    }

    // ---- lists, the image

    int list(int list, int n) {
        if (notBelow(list, 4)) return NONE;
        if (n > 18) return BAD;
        if (n < 0) return BELOW;
        lists[list] = new int[n];
        return 1;
    }

    int put(int list, int i, int v) {
        if (notBelow(list, 4)) return NONE;
        if (lists[list] == null) return NOTHING;
        if (notBelow(i, lists[list].length)) return BEYOND;
        lists[list][i] = v;
        return 1;
    }

    long get(int list, int i) {
        if (notBelow(list, 4) || lists[list] == null || notBelow(i, lists[list].length)) return NO;
        return lists[list][i];
    }

    int image() {
        image = now.copy();
        return now.sheets.size();
    }

    int undo() {
        if (image == null) return STATE;
        now = image.copy();
        return now.sheets.size();
    }

    int count(int what) {
        if (notBelow(what, 8)) return BAD;
        int laid = 0;
        for (List<Integer> stack : now.stacks) laid += stack.size();
        int[] counts = {now.sheets.size(), now.stacks.size(), tape.length(), paper.length(), laid,
            now.wish[0], now.wish[1], now.wish[2]};
        return counts[what];
    }
}
