import java.util.ArrayList;
import java.util.LinkedHashMap;
import java.util.List;
import java.util.Map;
import java.util.function.Supplier;
import java.util.function.ToLongFunction;

/**
 * "What is answered so changes nothing; what is asked changes nothing but THE PAPER." Each call that is
 * refused, and each that asks, on an object of its own; then all that can be seen of it is held against an
 * object of the same making that wasn't called.
 */
public final class UnchangedTest {
    private static final Check CHECK = new Check("UnchangedTest");
    private static final int MIN = Integer.MIN_VALUE, MAX = Integer.MAX_VALUE;

    private record Call(String name, ToLongFunction<ColourStacks> made, long want) { }

    public static void main(String[] args) {
        for (Call call : refused()) changesNothing("some", UnchangedTest::some, call, true);
        for (Call call : refusedIfFull()) changesNothing("full", UnchangedTest::full, call, true);
        for (Call call : refusedIfNew()) changesNothing("new", ColourStacks::new, call, true);
        for (Call call : asked()) changesNothing("some", UnchangedTest::some, call, false);
        for (Call call : asked()) changesNothing("new", ColourStacks::new, call, false);
        for (Call call : asked()) changesNothing("full", UnchangedTest::full, call, false);
        refusedTapes();
        spellChangesThePaperAlone();
        CHECK.done();
    }

    // ---- objects of the same making

    /** Some of everything: an image that differs from what is, a list of each kind, a word begun. */
    private static ColourStacks some() {
        ColourStacks x = new ColourStacks();
        Check.sheets(x, "glass 1 9,8,7,6,5;smoked 4 5,6,7,8,9");
        Check.stack(x, "abb");
        Check.stack(x, "-");
        x.wish(7, 8, 9);
        x.image();
        Check.sheets(x, "dyed 7 10,10,10,9,9");
        Check.stack(x, "c");
        x.power(1, 0, 3);
        x.weight(2, 4, 5);
        x.wish(3, 2, 1);
        x.spell(0);
        Check.tell(x, 0, 0, 4, 3, 2, 1, 0, 1);
        Check.tell(x, 1, -1, 5);
        x.list(2, 0);
        Check.feedAll(x, "clear ");
        return x;
    }

    private static ColourStacks full() {
        ColourStacks x = new ColourStacks();
        for (int i = 0; i < 8; i += 4) {
            Check.sheets(x, "dyed 1 1,2,3,4,5;dyed 2 9,8,7,6,5;dyed 3 1,1,1,1,1;dyed 4 9,9,9,9,9");
        }
        Check.emptyStacks(x, 5);
        Check.stack(x, "abcdef");
        x.image();
        x.take(5);
        x.lay(5, 7);
        return x;
    }

    // ---- what can be seen

    private static void seeScene(ColourStacks x, List<Long> seen) {
        for (int what = 0; what < 8; what++) seen.add((long) x.count(what));
        for (int sheet = 0; sheet < x.count(0); sheet++) {
            seen.add((long) x.sheet(sheet, 0));
            seen.add((long) x.sheet(sheet, 1));
            for (int band = 0; band < 5; band++) seen.add((long) x.sheet(sheet, 10 + band));
        }
        int stacks = x.count(1);
        for (int stack = 0; stack < stacks; stack++) {
            int height = x.at(stack, -1);
            seen.add((long) height);
            for (int place = 0; place < height; place++) seen.add((long) x.at(stack, place));
        }
        for (int i = 0; i < 15; i++) {
            int power = x.power(i / 5, i % 5, 0);
            x.power(i / 5, i % 5, power);
            int weight = x.weight(i / 5, i % 5, 0);
            x.weight(i / 5, i % 5, weight);
            seen.add((long) power);
            seen.add((long) weight);
        }
    }

    private static void seeLists(ColourStacks x, List<Long> seen) {
        for (int list = 0; list < 4; list++) {
            seen.add((long) x.put(list, -1, 0));
            long value = x.get(list, 0);
            for (int i = 1; value != Check.NO; i++) {
                seen.add(value);
                value = x.get(list, i);
            }
            seen.add(Check.NO);
        }
    }

    /** All that calls tell of what is. */
    private static List<Long> seen(ColourStacks x) {
        List<Long> seen = new ArrayList<>();
        seeScene(x, seen);
        seeLists(x, seen);
        for (char letter : Check.paper(x).toCharArray()) seen.add((long) letter);
        return seen;
    }

    /** What is on the tape, by how it is read, and what the image holds. */
    private static List<Long> hidden(ColourStacks x) {
        List<Long> hidden = new ArrayList<>();
        hidden.add((long) Check.sheets(x, "5 1,2,3,4,5"));
        hidden.add((long) x.undo());
        seeScene(x, hidden);
        return hidden;
    }

    private static final Map<String, List<Long>> UNTOUCHED = new LinkedHashMap<>();

    private static void changesNothing(String making, Supplier<ColourStacks> made, Call call, boolean isRefused) {
        List<Long> seenBefore = UNTOUCHED.computeIfAbsent(making + " seen", name -> seen(made.get()));
        List<Long> hiddenBefore = UNTOUCHED.computeIfAbsent(making + " hidden", name -> hidden(made.get()));
        ColourStacks one = made.get();
        long answer = call.made.applyAsLong(one);
        if (isRefused) CHECK.due(call.name + " of " + making, answer, call.want);
        CHECK.holds(call.name + " changes nothing to be seen of " + making, seen(one).equals(seenBefore));
        ColourStacks other = made.get();
        call.made.applyAsLong(other);
        CHECK.holds(call.name + " changes nothing hidden of " + making, hidden(other).equals(hiddenBefore));
    }

    // ---- calls that are refused

    private static List<Call> refused() {
        List<Call> calls = new ArrayList<>();
        for (int far : new int[] {MIN, -1, 10000, MAX}) {
            calls.add(new Call("2 feed " + far, x -> x.feed(far), Check.BAD));
            calls.add(new Call("4 number, sheet " + far, x -> x.number(far, 0, 0), Check.NONE));
            calls.add(new Call("4 number, band " + far, x -> x.number(0, far, 0), Check.NONE));
            calls.add(new Call("4 number, v " + far, x -> x.number(0, 0, far), Check.BAD));
            calls.add(new Call("5 becomes, sheet " + far, x -> x.becomes(far, 0, 0), Check.NONE));
            calls.add(new Call("5 becomes, kind " + far, x -> x.becomes(0, far, 0), Check.NONE));
            calls.add(new Call("5 becomes, figure " + far, x -> x.becomes(0, 3, far), Check.BAD));
            calls.add(new Call("8 lay, stack " + far, x -> x.lay(far, 0), Check.NONE));
            calls.add(new Call("8 lay, sheet " + far, x -> x.lay(0, far), Check.NONE));
            calls.add(new Call("9 take, stack " + far, x -> x.take(far), Check.NONE));
            calls.add(new Call("11 power, lamp " + far, x -> x.power(far, 0, 0), Check.NONE));
            calls.add(new Call("11 power, band " + far, x -> x.power(0, far, 0), Check.NONE));
            calls.add(new Call("11 power, v " + far, x -> x.power(0, 0, far), Check.BAD));
            calls.add(new Call("12 weight, eye " + far, x -> x.weight(far, 0, 0), Check.NONE));
            calls.add(new Call("12 weight, band " + far, x -> x.weight(0, far, 0), Check.NONE));
            calls.add(new Call("12 weight, v " + far, x -> x.weight(0, 0, far), Check.BAD));
            calls.add(new Call("19 wish, red " + far, x -> x.wish(far, 5, 5), Check.BAD));
            calls.add(new Call("19 wish, green " + far, x -> x.wish(5, far, 5), Check.BAD));
            calls.add(new Call("19 wish, blue " + far, x -> x.wish(5, 5, far), Check.BAD));
            calls.add(new Call("27 spell, stack " + far, x -> x.spell(far), Check.NONE));
            calls.add(new Call("30 change, list " + far, x -> x.change(far), Check.NONE));
            calls.add(new Call("31 list, list " + far, x -> x.list(far, 1), Check.NONE));
            calls.add(new Call("31 list, n " + far, x -> x.list(0, far), far < 0 ? Check.BELOW : Check.BAD));
            calls.add(new Call("32 put, list " + far, x -> x.put(far, 0, 1), Check.NONE));
            calls.add(new Call("32 put, i " + far, x -> x.put(0, far, 1), Check.BEYOND));
        }
        justOutside(calls);
        return calls;
    }

    private static void justOutside(List<Call> calls) {
        calls.add(new Call("2 feed 0", x -> x.feed(0), Check.BAD));
        calls.add(new Call("2 feed 128", x -> x.feed(128), Check.BAD));
        calls.add(new Call("4 number 3", x -> x.number(3, 0, 0), Check.NONE));
        calls.add(new Call("4 number 0 5", x -> x.number(0, 5, 0), Check.NONE));
        calls.add(new Call("4 number 0 4 11", x -> x.number(0, 4, 11), Check.BAD));
        calls.add(new Call("5 becomes 3", x -> x.becomes(3, 0, 0), Check.NONE));
        calls.add(new Call("5 becomes 0 6", x -> x.becomes(0, 6, 0), Check.NONE));
        calls.add(new Call("5 becomes 0 5 10", x -> x.becomes(0, 5, 10), Check.BAD));
        calls.add(new Call("8 lay 3", x -> x.lay(3, 0), Check.NONE));
        calls.add(new Call("8 lay 0 3", x -> x.lay(0, 3), Check.NONE));
        calls.add(new Call("9 take 3", x -> x.take(3), Check.NONE));
        calls.add(new Call("9 take of none", x -> x.take(1), Check.STATE));
        calls.add(new Call("11 power 3", x -> x.power(3, 0, 0), Check.NONE));
        calls.add(new Call("11 power 0 5", x -> x.power(0, 5, 0), Check.NONE));
        calls.add(new Call("11 power 2 4 10", x -> x.power(2, 4, 10), Check.BAD));
        calls.add(new Call("12 weight 3", x -> x.weight(3, 0, 0), Check.NONE));
        calls.add(new Call("12 weight 0 5", x -> x.weight(0, 5, 0), Check.NONE));
        calls.add(new Call("12 weight 2 4 10", x -> x.weight(2, 4, 10), Check.BAD));
        calls.add(new Call("22 without of none", x -> x.without(1, 0, 0), Check.STATE));
        calls.add(new Call("27 spell 3", x -> x.spell(3), Check.NONE));
        calls.add(new Call("30 change 4", x -> x.change(4), Check.NONE));
        calls.add(new Call("30 change of nothing", x -> x.change(3), Check.NOTHING));
        calls.add(new Call("30 change of no row", x -> x.change(1), 0));
        calls.add(new Call("30 change of an empty row", x -> x.change(2), 0));
        calls.add(new Call("31 list 4", x -> x.list(4, 1), Check.NONE));
        calls.add(new Call("31 list 0 19", x -> x.list(0, 19), Check.BAD));
        calls.add(new Call("32 put 4", x -> x.put(4, 0, 1), Check.NONE));
        calls.add(new Call("32 put of nothing", x -> x.put(3, 0, 1), Check.NOTHING));
        calls.add(new Call("32 put 0 7", x -> x.put(0, 7, 1), Check.BEYOND));
        calls.add(new Call("32 put of an empty row", x -> x.put(2, 0, 1), Check.BEYOND));
    }

    private static List<Call> refusedIfFull() {
        return List.of(new Call("8 lay on six", x -> x.lay(5, 0), Check.FULL),
            new Call("8 lay no sheet on six", x -> x.lay(5, 8), Check.NONE),
            new Call("4 number of a ninth", x -> x.number(8, 0, 0), Check.NONE),
            new Call("5 becomes of a ninth", x -> x.becomes(8, 0, 0), Check.NONE),
            new Call("9 take of a seventh", x -> x.take(6), Check.NONE),
            new Call("7 seventh stack", x -> Check.stack(x, "a"), Check.FULL),
            new Call("7 seventh stack of none", x -> Check.stack(x, "-"), Check.FULL),
            new Call("7 fault", x -> Check.stack(x, "ai"), -101),
            new Call("3 ninth sheet", x -> Check.sheets(x, "dyed 1 1,1,1,1,1"), Check.FULL),
            new Call("3 fault", x -> Check.sheets(x, "dyed 1 1,1,1,1"), -114));
    }

    private static List<Call> refusedIfNew() {
        return List.of(new Call("35 undo of none", ColourStacks::undo, Check.STATE),
            new Call("3 sheets of nothing", ColourStacks::sheets, -100),
            new Call("7 stack of nothing", ColourStacks::stack, -100),
            new Call("9 take", x -> x.take(0), Check.NONE),
            new Call("8 lay", x -> x.lay(0, 0), Check.NONE),
            new Call("4 number", x -> x.number(0, 0, 0), Check.NONE),
            new Call("5 becomes", x -> x.becomes(0, 0, 0), Check.NONE),
            new Call("27 spell", x -> x.spell(0), Check.NONE),
            new Call("32 put", x -> x.put(0, 0, 1), Check.NOTHING));
    }

    /** A tape that can't be read is empty then; all else is as it was. */
    private static void refusedTapes() {
        String[] texts = {"", "glass", "glass 1 1,1,1,1,1;", "glass 1 1,1,1,1,1;thik 1 1,1,1,1,1", "a-", "-a", "abcd", "aaaaaaa"};
        for (String text : texts) {
            for (int reader = 0; reader < 2; reader++) {
                ColourStacks x = some();
                ColourStacks y = some();
                // both read what had been begun, so that both tapes are empty
                x.sheets();
                y.sheets();
                Check.feedAll(x, text);
                int answer = reader == 0 ? x.sheets() : x.stack();
                CHECK.holds("a fault of '" + text + "'", answer <= -100);
                CHECK.holds("a fault of '" + text + "' changes nothing", seen(x).equals(seen(y)));
            }
        }
    }

    // ---- calls that ask

    private static List<Call> asked() {
        List<Call> calls = new ArrayList<>();
        for (int what : new int[] {0, 1, 10, 14, 20, 24, 25}) calls.add(new Call("6 sheet", x -> x.sheet(2, what), 0));
        for (int place = -2; place < 7; place++) {
            int asked = place;
            calls.add(new Call("10 at", x -> x.at(0, asked), 0));
            calls.add(new Call("18 ranked", x -> x.ranked(1, asked), 0));
            calls.add(new Call("28 paper", x -> x.paper(asked), 0));
            calls.add(new Call("33 get", x -> x.get(0, asked), 0));
            calls.add(new Call("36 count", x -> x.count(asked), 0));
        }
        for (int what = 0; what < 2; what++) {
            int asked = what;
            calls.add(new Call("13 through", x -> x.through(0, 0, asked), 0));
            calls.add(new Call("14 sees", x -> x.sees(0, 1, 5, 2, asked), 0));
            calls.add(new Call("17 falsePairs", x -> x.falsePairs(1, asked), 0));
            calls.add(new Call("20 fewest", x -> x.fewest(1, asked), 0));
            calls.add(new Call("20 fewest, sheets", x -> x.fewest(1, 10 + asked), 0));
            calls.add(new Call("21 nearest", x -> x.nearest(1, asked), 0));
            calls.add(new Call("21 nearest, sheets", x -> x.nearest(1, 10 + asked), 0));
            calls.add(new Call("22 without", x -> x.without(0, 1, asked), 0));
            calls.add(new Call("25 was", x -> x.was(1, 0, 0, 0, asked), 0));
            calls.add(new Call("25 was, of a dyed one", x -> x.was(2, 2, 1, 0, asked), 0));
            calls.add(new Call("26 odds", x -> x.odds(4, 3, 20, 1, 0, 5, asked), 0));
        }
        for (int stack = 0; stack < 3; stack++) {
            int asked = stack;
            calls.add(new Call("15 shade", x -> x.shade(asked, 1, 3, 0), 0));
            calls.add(new Call("16 alike", x -> x.alike(0, asked, 1), 0));
            calls.add(new Call("23 dark", x -> x.dark(asked, 1, 1), 0));
            calls.add(new Call("24 fades", x -> x.fades(asked, 1), 0));
            calls.add(new Call("29 judge", x -> x.judge(asked, 1), 0));
        }
        return calls;
    }

    /** "what is asked changes nothing but THE PAPER". */
    private static void spellChangesThePaperAlone() {
        ColourStacks x = some();
        ColourStacks y = some();
        x.spell(2);
        CHECK.holds("27 another paper", Check.paper(x).equals("dyed7"));
        // all else, once the paper is the same again
        x.spell(0);
        CHECK.holds("27 nothing but the paper", seen(x).equals(seen(y)));
        ColourStacks other = some();
        other.spell(1);
        CHECK.holds("27 nothing hidden", hiddenButPaper(other).equals(hiddenButPaper(some())));
    }

    private static List<Long> hiddenButPaper(ColourStacks x) {
        List<Long> hidden = hidden(x);
        hidden.remove(2 + 3);
        return hidden;
    }
}
