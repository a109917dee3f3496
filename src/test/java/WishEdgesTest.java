/**
 * Promises 19 to 24 at their edges: a test for each sentence of the document that names one. The sentence
 * stands above its test.
 */
public final class WishEdgesTest {
    private static final Check CHECK = new Check("WishEdgesTest");

    private static void due(String call, long got, long want) {
        CHECK.due(call, got, want);
    }

    public static void main(String[] args) {
        wishTooSmallOrLarge();
        fewestSuchLampAndWhat();
        fewestThereIsNone();
        fewestOfNoSheets();
        fewestNoneAtAllMayDo();
        fewestOfFourAtMost();
        fewestBeyondItsLast();
        fewestOfEight();
        fewestOfTheLastAlone();
        fewestOrderIsNoOther();
        fewestFirstByNumbers();
        fewestEachShade();
        fewestByShadesThatAreCut();
        fewestInThought();
        nearestSuchLampAndWhat();
        nearestOfNoSheets();
        nearestOfThreeAtMost();
        nearestBeyondItsLast();
        nearestAllDifferences();
        nearestFarOff();
        nearestFewerSheets();
        nearestFirstByNumbers();
        nearestOfTheLastAlone();
        withoutSuchNumbers();
        withoutAnySheets();
        withoutEachPlace();
        withoutFirstOfLikeOnes();
        withoutNoDifference();
        withoutAllDifferences();
        withoutByEachLamp();
        darkSuchNumbers();
        darkAlready();
        darkWithEight();
        darkNotWithEight();
        darkStrongLight();
        darkAllShades();
        darkAsItIs();
        darkByEachLamp();
        fadesSuchNumbers();
        fadesLeast();
        fadesNone();
        fadesAnyShade();
        fadesByEachLamp();
        fewestAndNearestByEachLamp();
        CHECK.done();
    }

    private static ColourStacks with(String clauses, String... stacks) {
        ColourStacks x = new ColourStacks();
        Check.sheets(x, clauses);
        for (String stack : stacks) Check.stack(x, stack);
        return x;
    }

    // ---- promise 19

    /** "three SHADES (0 .. 9999 each ..)": "1. BAD." */
    private static void wishTooSmallOrLarge() {
        ColourStacks x = new ColourStacks();
        due("19 least", x.wish(0, 0, 0), 1);
        due("19 most", x.wish(9999, 9998, 9997), 1);
        CHECK.refused("19 red", 10000, Check.BAD, v -> x.wish(v, 1, 1));
        CHECK.refused("19 green", 10000, Check.BAD, v -> x.wish(1, v, 1));
        CHECK.refused("19 blue", 10000, Check.BAD, v -> x.wish(1, 1, v));
        for (int eye = 0; eye < 3; eye++) due("19 stays " + eye, x.count(5 + eye), 9999 - eye);
        due("19 each its own", x.wish(0, 9999, 1), 1);
        due("19 red is", x.count(5), 0);
        due("19 green is", x.count(6), 9999);
        due("19 blue is", x.count(7), 1);
    }

    // ---- promise 20

    private static final int[] NO_FEWEST = {-1, 2, 3, 9, 14, 15, 100, Integer.MIN_VALUE, Integer.MIN_VALUE + 9,
        Integer.MAX_VALUE};

    /** "NONE: lamp, what; NOT: there is none". */
    private static void fewestSuchLampAndWhat() {
        ColourStacks x = with("glass 0 5,5,5,5,5");
        for (int found = 0; found < 2; found++) {
            for (int what : NO_FEWEST) due("20 no what " + what, x.fewest(2, what), Check.NONE);
            for (int what : new int[] {0, 1, 10, 13}) CHECK.refused("20 lamp", 3, Check.NONE, i -> x.fewest(i, what));
            x.wish(27, 22, 27);
        }
        due("20 by the last lamp", x.fewest(2, 0), 1);
        due("20 no such stack by a lamp that isn't there", x.fewest(3, 0), Check.NONE);
    }

    private static void notFound(String call, ColourStacks x) {
        for (int what : new int[] {0, 1, 10, 11, 12, 13}) due(call + ", what " + what, x.fewest(0, what), Check.NOT);
    }

    private static void found(String call, ColourStacks x, int stacks, int... sheets) {
        due(call + ": sheets", x.fewest(0, 0), sheets.length);
        due(call + ": stacks", x.fewest(0, 1), stacks);
        for (int k = 0; k < 4; k++) {
            due(call + ": sheet " + k, x.fewest(0, 10 + k), k < sheets.length ? sheets[k] : Check.NOT);
        }
    }

    /** "NOT: there is none". */
    private static void fewestThereIsNone() {
        ColourStacks x = with("glass 0 5,5,5,5,5;glass 0 10,10,10,10,10");
        x.wish(55, 45, 54);
        notFound("20 brighter than all", x);
        x.wish(9999, 9999, 9999);
        notFound("20 the brightest wish", x);
        x.wish(0, 0, 0);
        notFound("20 darker than all", x);
        x.wish(54, 45, 54);
        found("20 now there is one", x, 1);
    }

    /** "of all STACKS in thought": without SHEETS there is that of none alone. */
    private static void fewestOfNoSheets() {
        ColourStacks x = new ColourStacks();
        notFound("20 no sheets", x);
        x.wish(54, 45, 54);
        found("20 no sheets needed", x, 1);
        x.wish(54, 45, 53);
        notFound("20 no sheets for less", x);
    }

    /** "with fewest SHEETS (none at all may do)". */
    private static void fewestNoneAtAllMayDo() {
        ColourStacks x = with("glass 0 10,10,10,10,10;mirror 0 1,1,1,1,1;clear 0 0,0,0,0,10");
        x.wish(54, 45, 54);
        found("20 all would do", x, 1);
        Check.powers(x, 0, 0, 0, 0, 0, 0);
        x.wish(0, 0, 0);
        found("20 none without light", x, 1);
    }

    /** "of at most 4 SHEETS": four do, five would be too many. */
    private static void fewestOfFourAtMost() {
        ColourStacks x = with("glass 0 5,5,5,5,5");
        int[][] wishes = {{54, 45, 54}, {27, 22, 27}, {13, 11, 13}, {6, 5, 6}, {3, 2, 3}};
        for (int size = 0; size <= 4; size++) {
            x.wish(wishes[size][0], wishes[size][1], wishes[size][2]);
            found("20 of " + size, x, 1, new int[size]);
        }
        x.wish(1, 1, 1);
        notFound("20 of five", x);
        x.wish(0, 0, 0);
        notFound("20 of six", x);
    }

    /** "10 and k the k-th SHEET of the first (10 .. 13)"; "NOT: .. a SHEET beyond its last." */
    private static void fewestBeyondItsLast() {
        ColourStacks x = with("glass 0 10,10,10,10,10;thick 0 5,5,5,5,5");
        x.wish(13, 11, 13);
        for (int k = 0; k < 4; k++) due("20 of one, sheet " + k, x.fewest(0, 10 + k), k == 0 ? 1 : Check.NOT);
        x.wish(3, 2, 3);
        for (int k = 0; k < 4; k++) due("20 of two, sheet " + k, x.fewest(0, 10 + k), k < 2 ? 1 : Check.NOT);
        x.wish(0, 0, 0);
        for (int k = 0; k < 4; k++) due("20 of three, sheet " + k, x.fewest(0, 10 + k), k < 3 ? 1 : Check.NOT);
    }

    private static ColourStacks eightLikeOnes() {
        ColourStacks x = new ColourStacks();
        for (int i = 0; i < 8; i++) Check.sheets(x, Check.even("glass", i, 5));
        return x;
    }

    /** "1 how many such STACKS there are with as many": of eight like SHEETS all of a size. */
    private static void fewestOfEight() {
        int[][] wishes = {{54, 45, 54}, {27, 22, 27}, {13, 11, 13}, {6, 5, 6}, {3, 2, 3}};
        int[] stacks = {1, 8, 36, 120, 330};
        ColourStacks x = eightLikeOnes();
        for (int size = 0; size <= 4; size++) {
            x.wish(wishes[size][0], wishes[size][1], wishes[size][2]);
            found("20 of eight, " + size, x, stacks[size], new int[size]);
        }
    }

    /** "of those there are each as often as may be": the last SHEET four times is the last of all. */
    private static void fewestOfTheLastAlone() {
        ColourStacks x = new ColourStacks();
        for (int i = 0; i < 7; i++) Check.sheets(x, Check.even("glass", 0, 10));
        Check.sheets(x, Check.even("glass", 0, 5));
        x.wish(27, 22, 27);
        found("20 the last once", x, 1, 7);
        x.wish(13, 11, 13);
        found("20 the last twice", x, 1, 7, 7);
        x.wish(6, 5, 6);
        found("20 the last three times", x, 1, 7, 7, 7);
        x.wish(3, 2, 3);
        found("20 the last four times", x, 1, 7, 7, 7, 7);
    }

    /** "numbers never fall, another order is no other STACK". */
    private static void fewestOrderIsNoOther() {
        ColourStacks x = with("glass 0 5,5,5,5,5;glass 0 2,2,2,2,2;glass 0 7,7,7,7,7");
        x.wish(5, 4, 5);
        found("20 a and b, no b and a", x, 1, 0, 1);
        x.wish(3, 3, 3);
        found("20 a, b and c in one order", x, 1, 0, 1, 2);
        ColourStacks y = with("glass 0 2,2,2,2,2;glass 0 3,3,3,3,3;glass 0 5,5,5,5,5");
        y.wish(5, 4, 5);
        found("20 numbers rise, not what they let", y, 1, 0, 2);
    }

    /** "told as their numbers, the least first; of like ones the first by their numbers, one by one". */
    private static void fewestFirstByNumbers() {
        // 0.16 is 2 by 8, 8 by 2, 4 by 4 tenths
        String[] orders = {"284", "428", "842", "482", "8274", "9248"};
        int[][] first = {{0, 1}, {0, 0}, {0, 2}, {0, 0}, {0, 1}, {1, 3}};
        for (int i = 0; i < orders.length; i++) {
            ColourStacks x = new ColourStacks();
            for (char c : orders[i].toCharArray()) Check.sheets(x, Check.even("glass", 0, c - '0'));
            x.wish(8, 7, 8);
            found("20 of " + orders[i], x, 2, first[i]);
        }
        // the first number is the same, the second decides
        ColourStacks x = with("glass 0 4,4,4,4,4;glass 0 9,9,9,9,9;glass 0 2,2,2,2,2;glass 0 2,2,2,2,2");
        x.wish(4, 3, 4);
        found("20 the second decides", x, 2, 0, 2);
    }

    /** "those whose SHADES are WISH": each of the three. */
    private static void fewestEachShade() {
        for (int eye = 0; eye < 3; eye++) {
            for (int off = -1; off <= 1; off++) {
                int[] wish = {27, 22, 27};
                wish[eye] += off;
                ColourStacks x = with("glass 0 5,5,5,5,5");
                x.wish(wish[0], wish[1], wish[2]);
                if (off == 0) found("20 each shade as wished", x, 1, 0);
                else notFound("20 a shade of " + eye + " off by " + off, x);
            }
        }
    }

    /** "those whose SHADES are WISH": fractions with the same SHADES do, and by a LAMP as it is. */
    private static void fewestByShadesThatAreCut() {
        ColourStacks x = with("mirror 1 1,1,1,1,1;mirror 1 2,2,2,2,2;mirror 1 1,0,0,0,0");
        Check.onlyRed(x);
        x.wish(8, 0, 0);
        found("20 8.91 and 8.82 are 8", x, 3, 0);
        x.power(1, 0, 1);
        due("20 by another lamp it isn't 8", x.fewest(1, 0), Check.NOT);
        x.wish(0, 0, 0);
        due("20 by another lamp 0.99 is 0", x.fewest(1, 1), 3);
    }

    /** "in thought"; "what is asked changes nothing": it needs no place for a STACK. */
    private static void fewestInThought() {
        ColourStacks x = with("glass 0 5,5,5,5,5;glass 0 10,10,10,10,10", "-", "b", "b", "b", "b", "bbbbbb");
        x.wish(3, 2, 3);
        found("20 with six stacks there", x, 1, 0, 0, 0, 0);
        due("20 no stack of it", x.count(1), 6);
        due("20 nothing laid of it", x.count(4), 10);
        due("21 nearest, too", x.nearest(0, 0), 3);
        due("21 no stack of it", x.count(1), 6);
    }

    // ---- promise 21

    /** "NONE: lamp, what". */
    private static void nearestSuchLampAndWhat() {
        ColourStacks x = with("glass 0 5,5,5,5,5");
        for (int what : NO_FEWEST) due("21 no what " + what, x.nearest(2, what), Check.NONE);
        due("21 no fourth sheet", x.nearest(0, 13), Check.NONE);
        for (int what : new int[] {0, 1, 10, 12}) CHECK.refused("21 lamp", 3, Check.NONE, i -> x.nearest(i, what));
        CHECK.refused("21 lamp and no what", 3, Check.NONE, i -> x.nearest(i, 13));
        due("21 by the last lamp", x.nearest(2, 0), 3);
    }

    private static void near(String call, ColourStacks x, int by, int... sheets) {
        due(call + ": sheets", x.nearest(0, 0), sheets.length);
        due(call + ": by", x.nearest(0, 1), by);
        for (int k = 0; k < 3; k++) {
            due(call + ": sheet " + k, x.nearest(0, 10 + k), k < sheets.length ? sheets[k] : Check.NOT);
        }
    }

    /** "of all such": without SHEETS there is that of none. */
    private static void nearestOfNoSheets() {
        ColourStacks x = new ColourStacks();
        near("21 no sheets", x, 153);
        x.wish(54, 45, 54);
        near("21 as wished", x, 0);
        x.wish(0, 45, 0);
        near("21 two shades off", x, 108);
    }

    /** "of at most 3": four would be nearer, but aren't such. */
    private static void nearestOfThreeAtMost() {
        ColourStacks x = with("glass 0 5,5,5,5,5");
        int[][] wishes = {{54, 45, 54}, {27, 22, 27}, {13, 11, 13}, {6, 5, 6}};
        for (int size = 0; size <= 3; size++) {
            x.wish(wishes[size][0], wishes[size][1], wishes[size][2]);
            near("21 of " + size, x, 0, new int[size]);
        }
        x.wish(3, 2, 3);
        near("21 four are too many", x, 9, 0, 0, 0);
        due("20 four do there", x.fewest(0, 0), 4);
        x.wish(0, 0, 0);
        near("21 all of three at most", x, 17, 0, 0, 0);
    }

    /** "10 and k the k-th SHEET (10 .. 12)"; "NOT: a SHEET beyond its last." */
    private static void nearestBeyondItsLast() {
        ColourStacks x = with("glass 0 10,10,10,10,10;thick 0 5,5,5,5,5");
        int[][] wishes = {{54, 45, 54}, {13, 11, 13}, {3, 2, 3}, {0, 0, 0}};
        for (int size = 0; size <= 3; size++) {
            x.wish(wishes[size][0], wishes[size][1], wishes[size][2]);
            for (int k = 0; k < 3; k++) due("21 of " + size + ", sheet " + k, x.nearest(0, 10 + k), k < size ? 1 : Check.NOT);
        }
    }

    /** "(all three differences, none below 0, together)". */
    private static void nearestAllDifferences() {
        int[][] wishes = {{50, 45, 54}, {58, 45, 54}, {54, 41, 54}, {54, 49, 54}, {54, 45, 50}, {54, 45, 58},
            {50, 49, 54}, {58, 41, 50}, {53, 46, 55}};
        int[] by = {4, 4, 4, 4, 4, 4, 8, 12, 3};
        for (int i = 0; i < wishes.length; i++) {
            ColourStacks x = with("glass 0 0,0,0,0,0");
            x.wish(wishes[i][0], wishes[i][1], wishes[i][2]);
            near("21 differences " + i, x, by[i]);
        }
    }

    /** "WISH: three SHADES (0 .. 9999 each ..)": the farthest there is. */
    private static void nearestFarOff() {
        ColourStacks x = with("glass 0 1,1,1,1,1");
        x.wish(9999, 9999, 9999);
        near("21 the brightest wish", x, 29997 - 153);
        Check.powers(x, 0, 0, 0, 0, 0, 0);
        near("21 the brightest wish without light", x, 29997);
        x.wish(0, 0, 0);
        near("21 the darkest wish without light", x, 0);
    }

    /** "of like ones that with fewer SHEETS". */
    private static void nearestFewerSheets() {
        ColourStacks x = with("glass 0 10,10,10,10,10;glass 0 0,0,0,0,0");
        x.wish(54, 45, 54);
        near("21 none rather than one", x, 0);
        x.wish(0, 0, 0);
        near("21 one rather than two", x, 0, 1);
        x.wish(27, 22, 27);
        near("21 as far above as below", x, 76, 1);
        x.wish(27, 23, 27);
        near("21 a little nearer to none", x, 76);
        x.wish(27, 22, 28);
        near("21 none rather than one, as far", x, 76);
    }

    /** "of like ones the first likewise": by their numbers, one by one. */
    private static void nearestFirstByNumbers() {
        String[] orders = {"284", "428", "842", "482", "8274", "9248"};
        int[][] first = {{0, 1}, {0, 0}, {0, 2}, {0, 0}, {0, 1}, {1, 3}};
        for (int i = 0; i < orders.length; i++) {
            ColourStacks x = new ColourStacks();
            for (char c : orders[i].toCharArray()) Check.sheets(x, Check.even("glass", 0, c - '0'));
            x.wish(8, 7, 8);
            near("21 of " + orders[i], x, 0, first[i]);
        }
        ColourStacks x = with("glass 0 3,3,3,3,3;glass 0 7,7,7,7,7;glass 0 7,7,7,7,7;glass 0 3,3,3,3,3");
        x.wish(16, 13, 16);
        near("21 the first of three by one", x, 0, 0);
        x.wish(37, 31, 37);
        near("21 the first of two by one", x, 0, 1);
        x.wish(11, 9, 11);
        near("21 the first of four by two", x, 0, 0, 1);
    }

    /** "of those there are each as often as may be": the last SHEET three times is the last of all. */
    private static void nearestOfTheLastAlone() {
        ColourStacks x = new ColourStacks();
        for (int i = 0; i < 7; i++) Check.sheets(x, Check.even("glass", 0, 10));
        Check.sheets(x, Check.even("glass", 0, 5));
        x.wish(6, 5, 6);
        near("21 the last of all", x, 0, 7, 7, 7);
        x.wish(13, 11, 13);
        near("21 the last of two", x, 0, 7, 7);
        ColourStacks like = eightLikeOnes();
        like.wish(6, 5, 6);
        near("21 the first of all", like, 0, 0, 0, 0);
    }

    // ---- promise 22

    /** "NONE: stack, lamp, what; STATE". */
    private static void withoutSuchNumbers() {
        ColourStacks x = with("glass 0 5,5,5,5,5", "a", "-");
        for (int what = 0; what < 2; what++) {
            int asked = what;
            CHECK.refused("22 stack", 2, Check.NONE, i -> x.without(i, 0, asked));
            CHECK.refused("22 lamp", 3, Check.NONE, i -> x.without(0, i, asked));
            CHECK.refused("22 lamp ahead of STATE", 3, Check.NONE, i -> x.without(1, i, asked));
        }
        CHECK.refused("22 what", 2, Check.NONE, i -> x.without(0, 0, i));
        CHECK.refused("22 what ahead of STATE", 2, Check.NONE, i -> x.without(1, 0, i));
        due("22 by the last lamp", x.without(0, 2, 1), 76 + 1);
    }

    /** "STATE: it has no SHEETS." */
    private static void withoutAnySheets() {
        ColourStacks x = with("glass 0 5,5,5,5,5", "-", "a");
        for (int what = 0; what < 2; what++) {
            due("22 none told", x.without(0, 0, what), Check.STATE);
            due("22 one left", x.without(1, 0, what), what == 0 ? 0 : 77);
        }
        x.take(1);
        for (int what = 0; what < 2; what++) due("22 none left", x.without(1, 2, what), Check.STATE);
    }

    /** "the place of the SHEET without which SHADES differ most": any place of six. */
    private static void withoutEachPlace() {
        String stack = "aaaaaa";
        for (int place = 0; place < 6; place++) {
            ColourStacks x = with("glass 0 9,9,9,9,9;glass 0 5,5,5,5,5",
                stack.substring(0, place) + "b" + stack.substring(place + 1));
            due("22 place " + place, x.without(0, 0, 0), place);
            // half of 0.59049 is 15 13 15, without the half 31 26 31
            due("22 by how much " + place, x.without(0, 0, 1), 45);
        }
    }

    /** "of like ones the first". */
    private static void withoutFirstOfLikeOnes() {
        String[] stacks = {"aaaaaa", "bbaabb", "abba", "aab", "ba", "ccabab"};
        int[] first = {0, 2, 0, 0, 1, 2};
        for (int i = 0; i < stacks.length; i++) {
            ColourStacks x = with("glass 0 5,5,5,5,5;glass 0 10,10,10,10,10;mirror 0 0,0,0,0,0", stacks[i]);
            due("22 first of " + stacks[i], x.without(0, 0, 0), first[i]);
        }
    }

    /** "without which SHADES differ most": where none differs, the first, by 0. */
    private static void withoutNoDifference() {
        ColourStacks x = with("glass 0 10,10,10,10,10;glass 0 0,0,0,0,0", "aaaaaa", "bb", "b");
        for (int stack = 0; stack < 2; stack++) {
            due("22 no difference", x.without(stack, 0, 1), 0);
            due("22 the first of none", x.without(stack, 0, 0), 0);
        }
        due("22 all the difference", x.without(2, 0, 1), 153);
        Check.powers(x, 1, 0, 0, 0, 0, 0);
        due("22 no difference without light", x.without(2, 1, 1), 0);
    }

    /** "(likewise, together)": all three differences, of what is cut. */
    private static void withoutAllDifferences() {
        for (int eye = 0; eye < 3; eye++) {
            ColourStacks x = with("glass 0 5,5,5,5,5;mirror 1 1,1,1,1,1", "ba");
            for (int other = 0; other < 3; other++) if (other != eye) Check.weights(x, other, 0, 0, 0, 0, 0);
            Check.weights(x, eye, 1, 1, 1, 1, 1);
            // 45, the half of it, 99 hundredths of that: 45 44 22
            due("22 by eye " + eye, x.without(0, 0, 1), 22);
            due("22 place by eye " + eye, x.without(0, 0, 0), 1);
        }
    }

    /** "of a STACK by a LAMP": each stack by each lamp. */
    private static void withoutByEachLamp() {
        ColourStacks x = with("glass 0 5,5,5,5,5;glass 0 10,10,10,10,10", "b", "ba", "aab", "bba");
        Check.ownPowers(x);
        int[][] by = {{0, 77, 39, 77}, {0, 26, 14, 26}, {0, 9, 5, 9}};
        int[] places = {0, 1, 0, 2};
        for (int lamp = 0; lamp < 3; lamp++) {
            for (int stack = 0; stack < 4; stack++) {
                due("22 by how much, lamp " + lamp + ", stack " + stack, x.without(stack, lamp, 1), by[lamp][stack]);
                due("22 place, lamp " + lamp + ", stack " + stack, x.without(stack, lamp, 0), places[stack]);
            }
        }
    }

    // ---- promise 23

    /** "NONE: stack, lamp, sheet." */
    private static void darkSuchNumbers() {
        ColourStacks x = with("glass 0 0,0,0,0,0;glass 0 1,1,1,1,1", "-", "a");
        for (int stack = 0; stack < 2; stack++) {
            int asked = stack;
            CHECK.refused("23 lamp", 3, Check.NONE, i -> x.dark(asked, i, 0));
            CHECK.refused("23 sheet", 2, Check.NONE, i -> x.dark(asked, 0, i));
        }
        CHECK.refused("23 stack", 2, Check.NONE, i -> x.dark(i, 0, 0));
        due("23 the last", x.dark(1, 2, 1), 0);
        due("23 the first", x.dark(0, 2, 0), 1);
        ColourStacks none = with("", "-");
        due("23 there are no sheets", none.dark(0, 0, 0), Check.NONE);
    }

    /** "DARK (0: they are 0 already)". */
    private static void darkAlready() {
        ColourStacks x = with("glass 0 0,0,0,0,0;glass 0 10,10,10,10,10;thick 0 1,1,1,1,1", "a", "aaaaaa", "c", "cb", "-");
        for (int sheet = 0; sheet < 3; sheet++) {
            due("23 nothing comes", x.dark(0, 0, sheet), 0);
            due("23 nothing comes through six", x.dark(1, 0, sheet), 0);
            due("23 0.54 is dark", x.dark(2, 0, sheet), 0);
            due("23 0.54 is dark, of two", x.dark(3, 0, sheet), 0);
        }
        due("23 one more", x.dark(4, 0, 2), 1);
        Check.powers(x, 1, 0, 0, 0, 0, 0);
        due("23 without light", x.dark(4, 1, 1), 0);
    }

    /** "how many more ..(as long as there are eight SHEETS at most)": up to the eighth. */
    private static void darkWithEight() {
        // nine times 0.8 to the power of seven is 1.88, of eight 1.5; times 6 by 10 to the power of eight is 0.15
        ColourStacks x = with("glass 0 6,6,6,6,6", "-", "a", "aa", "aaa", "aaaa", "aaaaaa");
        int[] more = {8, 7, 6, 5, 4, 2};
        for (int stack = 0; stack < 6; stack++) due("23 the eighth, " + stack, x.dark(stack, 0, 0), more[stack]);
        due("23 in thought", x.count(4), 16);
        due("23 six stay", x.at(5, -1), 6);
    }

    /** "-5: with eight they aren't." */
    private static void darkNotWithEight() {
        ColourStacks x = with("glass 0 6,6,6,6,7;glass 0 10,10,10,10,10;glass 0 0,0,0,0,0", "-", "a", "bbbbbb", "bbbbba");
        x.weight(0, 4, 9);
        for (int stack = 0; stack < 4; stack++) {
            due("23 not by a, " + stack, x.dark(stack, 0, 0), Check.NOT);
            due("23 not by b, " + stack, x.dark(stack, 0, 1), Check.NOT);
            due("23 by c, " + stack, x.dark(stack, 0, 2), 1);
        }
        // 45 of a ninth sheet would be dark, of an eighth not: 0.6 to the eighth times 54 is 0.9, times 60 is 1.007
        ColourStacks y = with("glass 0 0,0,6,0,0", "-", "a");
        Check.weights(y, 0, 0, 0, 6, 0, 0);
        Check.weights(y, 1, 0, 0, 0, 0, 0);
        due("23 54 with eight", y.dark(0, 0, 0), 8);
        Check.weights(y, 1, 0, 0, 7, 0, 0);
        due("23 63 not with eight", y.dark(0, 0, 0), Check.NOT);
        due("23 63 not with seven more", y.dark(1, 0, 0), Check.NOT);
        y.power(0, 2, 8);
        due("23 56 with eight", y.dark(0, 0, 0), 8);
    }

    /**
     * "-5: with eight they aren't", of the strongest light: what comes through eight sheets, by tenths of a power,
     * is more than a long holds, and 184, 185 and 369 would look dark then.
     */
    private static void darkStrongLight() {
        int[][] powers = {{1, 1, 5, 9, 9}, {1, 1, 7, 9, 9}, {5, 9, 9, 9, 9}, {9, 9, 9, 9, 9}};
        int[][] weights = {{1, 1, 4, 9, 9}, {1, 1, 3, 9, 9}, {9, 9, 9, 9, 9}, {9, 9, 9, 9, 9}};
        int[] shades = {184, 185, 369, 405};
        for (int i = 0; i < shades.length; i++) {
            ColourStacks x = with("glass 0 10,10,10,10,10", "-", "aaaaaa");
            Check.powers(x, 0, powers[i]);
            for (int eye = 0; eye < 3; eye++) Check.weights(x, eye, weights[i]);
            for (int stack = 0; stack < 2; stack++) {
                due("23 as bright as " + shades[i], x.shade(stack, 0, 0, 2), shades[i]);
                due("23 never dark " + shades[i], x.dark(stack, 0, 0), Check.NOT);
            }
        }
    }

    /** "till all SHADES are 0": each of the three. */
    private static void darkAllShades() {
        for (int eye = 0; eye < 3; eye++) {
            ColourStacks x = with("glass 0 0,0,0,0,5", "-");
            for (int other = 0; other < 3; other++) Check.weights(x, other, 0, 0, 0, 0, 0);
            due("23 no eye sees", x.dark(0, 0, 0), 0);
            x.weight(eye, 4, 1);
            due("23 eye " + eye + " sees", x.dark(0, 0, 0), 4);
            x.weight(eye, 0, 1);
            due("23 eye " + eye + " sees two bands", x.dark(0, 0, 0), 4);
        }
    }

    /** "(By a LAMP is by it as it is, AGED 0, where no n is told.)": 1 of a fading band isn't dark, 0.99 is. */
    private static void darkAsItIs() {
        for (int band = 0; band < 5; band++) {
            ColourStacks x = with("mirror 1 1,1,1,1,1", "-");
            for (int eye = 0; eye < 3; eye++) Check.weights(x, eye, 0, 0, 0, 0, 0);
            x.weight(2, band, 1);
            x.power(0, band, 1);
            due("23 1 of band " + band, x.dark(0, 0, 0), 1);
            x.lay(0, 0);
            due("23 0.99 of band " + band, x.dark(0, 0, 0), 0);
        }
    }

    /** "more of a SHEET .. on a STACK": each sheet on each stack by each lamp. */
    private static void darkByEachLamp() {
        ColourStacks x = with("glass 0 5,5,5,5,5;glass 0 2,2,2,2,2;glass 0 1,1,1,1,1", "-", "a", "b", "c");
        Check.ownPowers(x);
        int[][][] more = {{{6, 3, 2}, {5, 3, 2}, {4, 2, 2}, {3, 2, 1}}, {{5, 2, 2}, {4, 2, 1}, {2, 1, 1}, {1, 1, 1}},
            {{3, 2, 1}, {2, 1, 1}, {1, 1, 1}, {0, 0, 0}}};
        for (int lamp = 0; lamp < 3; lamp++) {
            for (int stack = 0; stack < 4; stack++) {
                for (int sheet = 0; sheet < 3; sheet++) {
                    due("23 " + stack + " " + lamp + " " + sheet, x.dark(stack, lamp, sheet), more[lamp][stack][sheet]);
                }
            }
        }
    }

    // ---- promise 24

    /** "NONE." */
    private static void fadesSuchNumbers() {
        ColourStacks x = with("glass 0 5,5,5,5,5", "a", "-");
        CHECK.refused("24 stack", 2, Check.NONE, i -> x.fades(i, 0));
        CHECK.refused("24 lamp", 3, Check.NONE, i -> x.fades(0, i));
        due("24 the last", x.fades(1, 2), 1);
    }

    /** "the least n (1 .. 10)": each of them by what another BAND adds. */
    private static void fadesLeast() {
        for (int fading = 0; fading < 2; fading++) {
            for (int n = 1; n <= 10; n++) {
                ColourStacks x = with("glass 0 10,10," + (n - 1) + ",0,0", "a");
                Check.weights(x, 0, 0, 0, 1, 0, 0);
                x.weight(0, fading, 1);
                Check.weights(x, 1, 0, 0, 0, 0, 0);
                Check.weights(x, 2, 0, 0, 0, 0, 0);
                Check.powers(x, 0, 1, 1, 1, 1, 1);
                // 1 and n - 1 tenths: less than 1 as soon as n tenths are off
                due("24 aged " + n + " by band " + fading, x.fades(0, 0), n);
                due("24 it is otherwise then", x.shade(0, 0, n, 0), 0);
                due("24 it isn't ahead of that", x.shade(0, 0, n - 1, 0), 1);
            }
        }
    }

    /** "-5: none": no n up to 10 does. */
    private static void fadesNone() {
        ColourStacks x = with("glass 0 0,0,9,9,9;glass 0 1,1,0,0,0;glass 0 5,5,5,5,5", "a", "b", "c", "-");
        due("24 nothing of what fades comes", x.fades(0, 0), Check.NOT);
        due("24 it comes", x.fades(1, 0), 1);
        Check.weights(x, 1, 0, 0, 9, 9, 9);
        Check.weights(x, 2, 0, 0, 9, 9, 9);
        for (int stack = 0; stack < 4; stack++) due("24 no eye looks at it", x.fades(stack, 0), Check.NOT);
        Check.weights(x, 2, 1, 0, 0, 0, 0);
        due("24 nine tenths are 0 with and without", x.fades(1, 0), Check.NOT);
        due("24 nine are more", x.fades(3, 0), 1);
        x.power(0, 0, 0);
        for (int stack = 0; stack < 4; stack++) due("24 the lamp has none of it", x.fades(stack, 0), Check.NOT);
        due("24 another has", x.fades(3, 1), 1);
    }

    /** "any SHADE of a STACK is otherwise": one is enough. */
    private static void fadesAnyShade() {
        for (int eye = 0; eye < 3; eye++) {
            for (int band = 0; band < 5; band++) {
                ColourStacks x = with("", "-");
                for (int other = 0; other < 3; other++) Check.weights(x, other, 0, 0, 0, 0, 0);
                x.weight(eye, band, 1);
                due("24 eye " + eye + " of band " + band, x.fades(0, 0), band < 2 ? 1 : Check.NOT);
            }
        }
    }

    /** "by a LAMP AGED n": each stack by each lamp; 6 times 9, 3 and 1, of BLUE, less a tenth each year. */
    private static void fadesByEachLamp() {
        ColourStacks x = with("glass 0 5,5,5,5,5;glass 0 1,1,1,1,1;glass 0 10,10,10,10,10", "c", "a", "b", "ba");
        for (int eye = 0; eye < 2; eye++) Check.weights(x, eye, 0, 0, 0, 0, 0);
        Check.ownPowers(x);
        // BLUE sees 54 27 5.4 2.7, 18 9 1.8 0.9, 6 3 0.6 0.3
        int[][] want = {{1, 1, 1, 3}, {1, 1, 5, Check.NOT}, {1, 1, Check.NOT, Check.NOT}};
        for (int lamp = 0; lamp < 3; lamp++) {
            for (int stack = 0; stack < 4; stack++) {
                due("24 stack " + stack + " by " + lamp, x.fades(stack, lamp), want[lamp][stack]);
            }
        }
    }

    /** "FEWEST by a LAMP"; "NEAREST by a LAMP". */
    private static void fewestAndNearestByEachLamp() {
        ColourStacks x = with("glass 0 5,5,5,5,5;glass 0 10,10,10,10,10");
        Check.ownPowers(x);
        int[][] wishes = {{54, 45, 54}, {18, 15, 18}, {6, 5, 6}, {27, 22, 27}, {9, 7, 9}, {3, 2, 3}, {13, 11, 13}};
        int[][] sheets = {{0, Check.NOT, Check.NOT}, {Check.NOT, 0, Check.NOT}, {3, Check.NOT, 0}, {1, Check.NOT, Check.NOT},
            {Check.NOT, 1, Check.NOT}, {4, Check.NOT, 1}, {2, Check.NOT, Check.NOT}};
        int[][] by = {{0, 102, 136}, {14, 0, 34}, {0, 6, 0}, {0, 25, 59}, {8, 0, 8}, {9, 3, 0}, {0, 12, 20}};
        for (int i = 0; i < wishes.length; i++) {
            x.wish(wishes[i][0], wishes[i][1], wishes[i][2]);
            for (int lamp = 0; lamp < 3; lamp++) {
                due("20 wish " + i + " by " + lamp, x.fewest(lamp, 0), sheets[i][lamp]);
                due("21 wish " + i + " by " + lamp, x.nearest(lamp, 1), by[i][lamp]);
            }
        }
    }
}
