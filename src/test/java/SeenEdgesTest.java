/**
 * Promises 13 to 18 at their edges: a test for each sentence of the document that names one. The sentence
 * stands above its test.
 */
public final class SeenEdgesTest {
    private static final Check CHECK = new Check("SeenEdgesTest");
    private static final long MILLION = 1000000;

    private static void due(String call, long got, long want) {
        CHECK.due(call, got, want);
    }

    public static void main(String[] args) {
        throughSuchStackBandAndPart();
        throughNoSheets();
        throughOneToSix();
        throughNone();
        throughInLowestTerms();
        seesSuchNumbers();
        seesAgedNoneAndTen();
        seesAgedBandsAlone();
        seesNothing();
        seesInLowestTerms();
        seesPowersAndWeightsAtTheirEdges();
        seesByEachLamp();
        shadeSuchNumbers();
        shadeIsCut();
        shadeAgedIsCut();
        shadeOfAll();
        alikeSuchStacksAndLamp();
        alikeItself();
        alikeExactly();
        alikeByEachEye();
        alikeAsItIs();
        falsePairsSuchLampAndWhat();
        falsePairsOfTooFew();
        falsePairsOfSix();
        falsePairsFirst();
        falsePairsByOneLampAtLeast();
        rankedSuchLampAndPlace();
        rankedLikeOnes();
        rankedExactly();
        rankedByAllEyes();
        rankedWithoutLight();
        rankedAsItIs();
        CHECK.done();
    }

    private static ColourStacks with(String clauses, String... stacks) {
        ColourStacks x = new ColourStacks();
        Check.sheets(x, clauses);
        for (String stack : stacks) Check.stack(x, stack);
        return x;
    }

    // ---- promise 13

    /** "NO: stack, band, part." */
    private static void throughSuchStackBandAndPart() {
        ColourStacks x = with("glass 0 1,2,3,4,5", "a", "-");
        for (int part = 0; part < 2; part++) {
            int asked = part;
            CHECK.refused("13 stack", 2, Check.NO, i -> x.through(i, 0, asked));
            CHECK.refused("13 band", 5, Check.NO, i -> x.through(0, i, asked));
        }
        CHECK.refused("13 part", 2, Check.NO, i -> x.through(0, 4, i));
        CHECK.refused("13 part of none laid", 2, Check.NO, i -> x.through(1, 0, i));
        for (int band = 0; band < 5; band++) {
            due("13 the first's band " + band, x.through(0, band, 0) * 10, (band + 1) * x.through(0, band, 1));
        }
    }

    /** "What comes THROUGH a STACK without SHEETS is 1 by 1." */
    private static void throughNoSheets() {
        ColourStacks x = with("glass 0 0,0,0,0,0", "-", "a");
        x.take(1);
        for (int stack = 0; stack < 2; stack++) {
            for (int band = 0; band < 5; band++) {
                due("13 of none above", x.through(stack, band, 0), 1);
                due("13 of none below", x.through(stack, band, 1), 1);
            }
        }
        ColourStacks none = with("", "-");
        due("13 where there are no sheets above", none.through(0, 4, 0), 1);
        due("13 where there are no sheets below", none.through(0, 4, 1), 1);
    }

    /** "rows of 0 .. 6 SHEETS": "what all its SHEETS LET through, one of the other (hundredths by hundredths ..)". */
    private static void throughOneToSix() {
        ColourStacks x = with("thick 0 1,3,10,5,0", "-");
        long below = 1;
        long threes = 1;
        for (int height = 1; height <= 6; height++) {
            x.lay(0, 0);
            below *= 100;
            threes *= 9;
            due("13 a hundredth above", x.through(0, 0, 0), 1);
            due("13 a hundredth below", x.through(0, 0, 1), below);
            due("13 nine hundredths above", x.through(0, 1, 0), threes);
            due("13 nine hundredths below", x.through(0, 1, 1), below);
            due("13 all above", x.through(0, 2, 0), 1);
            due("13 all below", x.through(0, 2, 1), 1);
            due("13 quarters above", x.through(0, 3, 0), 1);
            due("13 quarters below", x.through(0, 3, 1), 1L << 2 * height);
            due("13 nothing above", x.through(0, 4, 0), 0);
            due("13 nothing below", x.through(0, 4, 1), 1);
        }
    }

    /** "Of longs part 0 is above, 1 below the line of a fraction in lowest terms": nothing is 0 by 1. */
    private static void throughNone() {
        ColourStacks x = with("glass 0 0,10,10,10,10;glass 0 10,9,8,7,6", "ba", "ab", "bbbbba");
        for (int stack = 0; stack < 3; stack++) {
            due("13 nothing above " + stack, x.through(stack, 0, 0), 0);
            due("13 nothing below " + stack, x.through(stack, 0, 1), 1);
        }
    }

    /** "a fraction in lowest terms". */
    private static void throughInLowestTerms() {
        ColourStacks x = with("glass 0 5,2,10,3,6;smoked 9 10,5,2,1,4", "a", "b", "ab");
        long[][] above = {{1, 1, 1, 3, 3}, {9, 9, 9, 9, 9}, {9, 9, 9, 27, 27}};
        long[][] below = {{2, 5, 1, 10, 5}, {10, 20, 50, 100, 25}, {20, 100, 50, 1000, 125}};
        for (int stack = 0; stack < 3; stack++) {
            for (int band = 0; band < 5; band++) {
                due("13 above " + stack + band, x.through(stack, band, 0), above[stack][band]);
                due("13 below " + stack + band, x.through(stack, band, 1), below[stack][band]);
            }
        }
    }

    // ---- promise 14

    /** "NO: stack, lamp, n, eye, part." */
    private static void seesSuchNumbers() {
        ColourStacks x = with("glass 0 1,2,3,4,5", "a");
        CHECK.refused("14 stack", 1, Check.NO, i -> x.sees(i, 0, 0, 0, 0));
        CHECK.refused("14 lamp", 3, Check.NO, i -> x.sees(0, i, 0, 0, 0));
        CHECK.refused("14 n", 11, Check.NO, i -> x.sees(0, 0, i, 0, 0));
        CHECK.refused("14 eye", 3, Check.NO, i -> x.sees(0, 0, 0, i, 0));
        CHECK.refused("14 part", 2, Check.NO, i -> x.sees(0, 0, 0, 0, i));
        // 9 times 0.3 0.8 1.5: 23.4 is the last that can be asked for, by the oldest lamp
        due("14 the last above", x.sees(0, 2, 10, 0, 0), 117);
        due("14 the last below", x.sees(0, 2, 10, 0, 1), 5);
        due("14 the last eye above", x.sees(0, 2, 10, 2, 0), 0);
        due("14 the last eye below", x.sees(0, 2, 10, 2, 1), 1);
    }

    private static void fraction(String call, ColourStacks x, int n, int eye, long above, long below) {
        due(call + " above", x.sees(0, 0, n, eye, 0), above);
        due(call + " below", x.sees(0, 0, n, eye, 1), below);
    }

    /** "AGED n (0 .. 10): its POWERS of BANDS 0, 1 times (10 less n) by 10, exactly; .. (0: as it is)". */
    private static void seesAgedNoneAndTen() {
        ColourStacks x = with("", "-");
        long[] above = {54, 243, 216, 189, 162, 27, 108, 81, 54, 27, 0};
        long[] below = {1, 5, 5, 5, 5, 1, 5, 5, 5, 5, 1};
        for (int n = 0; n <= 10; n++) fraction("14 blue aged " + n, x, n, 2, above[n], below[n]);
    }

    /** "of BANDS 0, 1 ..; of others as they are". */
    private static void seesAgedBandsAlone() {
        for (int band = 0; band < 5; band++) {
            ColourStacks x = with("", "-");
            Check.weights(x, 1, 0, 0, 0, 0, 0);
            x.weight(1, band, 1);
            fraction("14 not aged, band " + band, x, 0, 1, 9, 1);
            fraction("14 aged 1, band " + band, x, 1, 1, band < 2 ? 81 : 9, band < 2 ? 10 : 1);
            fraction("14 aged 9, band " + band, x, 9, 1, 9, band < 2 ? 10 : 1);
            fraction("14 aged 10, band " + band, x, 10, 1, band < 2 ? 0 : 9, 1);
        }
    }

    /** "in lowest terms": what is nothing is 0 by 1, by whatever it is nothing. */
    private static void seesNothing() {
        ColourStacks x = with("glass 0 0,0,0,0,0", "aaaaaa");
        for (int n = 0; n <= 10; n += 5) fraction("14 nothing comes, aged " + n, x, n, 0, 0, 1);
        ColourStacks y = with("", "-");
        Check.powers(y, 0, 0, 0, 0, 0, 0);
        fraction("14 no power", y, 3, 1, 0, 1);
        ColourStacks z = with("", "-");
        Check.weights(z, 1, 0, 0, 0, 0, 0);
        fraction("14 no weight", z, 3, 1, 0, 1);
        due("14 another eye sees yet", z.sees(0, 0, 0, 0, 0), 54);
    }

    /** "of all BANDS POWER times what comes THROUGH times WEIGHT, together: a fraction." */
    private static void seesInLowestTerms() {
        ColourStacks x = with("thick 0 1,1,1,1,1", "aaaaaa");
        fraction("14 54 hundredths of hundredths", x, 0, 0, 27, MILLION * MILLION / 2);
        fraction("14 45 of them", x, 0, 1, 9, MILLION * MILLION / 5);
        fraction("14 54 of them, aged 5", x, 5, 2, 27, MILLION * MILLION);
        fraction("14 48.6 of them, aged 1", x, 1, 2, 243, MILLION * MILLION * 5);
        fraction("14 44.1 of them, aged 1", x, 1, 1, 441, MILLION * MILLION * 10);
    }

    /** "a POWER (0 .. 9 ..)", "a WEIGHT (0 .. 9)": the greatest of all. */
    private static void seesPowersAndWeightsAtTheirEdges() {
        ColourStacks x = with("", "-");
        for (int eye = 0; eye < 3; eye++) Check.weights(x, eye, 9, 9, 9, 9, 9);
        fraction("14 the most", x, 0, 2, 405, 1);
        fraction("14 the most, aged 10", x, 10, 2, 243, 1);
        fraction("14 the most, aged 1", x, 1, 0, 1944, 5);
        for (int band = 0; band < 5; band++) {
            x.power(0, band, 0);
            fraction("14 without band " + band, x, 0, 0, 81 * (4 - band), 1);
        }
    }

    /** "LAMPS 0 .. 2", "EYES 0 .. 2", STACKS: each lamp, each eye and each stack for itself. */
    private static void seesByEachLamp() {
        ColourStacks x = with("glass 0 5,5,5,5,5", "-", "a", "aa", "-");
        Check.ownPowers(x);
        int[] powers = {9, 3, 1};
        int[] weights = {6, 5, 6};
        int[] shares = {1, 2, 4, 1};
        for (int stack = 0; stack < 4; stack++) {
            for (int lamp = 0; lamp < 3; lamp++) {
                for (int eye = 0; eye < 3; eye++) {
                    String by = " " + stack + " " + lamp + " " + eye;
                    long above = powers[lamp] * weights[eye];
                    due("14 fraction" + by, x.sees(stack, lamp, 0, eye, 0) * shares[stack], above * x.sees(stack, lamp, 0, eye, 1));
                    due("15 shade" + by, x.shade(stack, lamp, 0, eye), above / shares[stack]);
                }
            }
        }
    }

    // ---- promise 15

    /** "likewise. NONE." */
    private static void shadeSuchNumbers() {
        ColourStacks x = with("glass 0 1,2,3,4,5", "a");
        CHECK.refused("15 stack", 1, Check.NONE, i -> x.shade(i, 0, 0, 0));
        CHECK.refused("15 lamp", 3, Check.NONE, i -> x.shade(0, i, 0, 0));
        CHECK.refused("15 n", 11, Check.NONE, i -> x.shade(0, 0, i, 0));
        CHECK.refused("15 eye", 3, Check.NONE, i -> x.shade(0, 0, 0, i));
        due("15 the last", x.shade(0, 2, 10, 0), 23);
        due("15 the last eye", x.shade(0, 2, 10, 2), 0);
    }

    /** "Its SHADE: that, cut.": what is whole stays, and what is a little less is one less. */
    private static void shadeIsCut() {
        ColourStacks x = with("mirror 1 0,0,0,0,0;mirror 1 1,1,1,1,1;glass 0 0,0,0,0,0", "a", "b", "bbbbbb", "c");
        Check.onlyRed(x);
        int[] whole = {9, 8, 8, 0};
        for (int stack = 0; stack < 4; stack++) due("15 of nine " + stack, x.shade(stack, 0, 0, 0), whole[stack]);
        x.power(0, 0, 1);
        int[] one = {1, 0, 0, 0};
        for (int stack = 0; stack < 4; stack++) due("15 of one " + stack, x.shade(stack, 0, 0, 0), one[stack]);
        // 5 of 5 halves: 2.5 and 2.5 are 5, though each alone would be cut to 2
        ColourStacks y = with("glass 0 5,5,5,5,5", "a");
        Check.powers(y, 0, 5, 5, 0, 0, 0);
        Check.weights(y, 0, 1, 1, 0, 0, 0);
        due("15 cut once, of all bands", y.shade(0, 0, 0, 0), 5);
    }

    /** "AGED n ..: .. by 10, exactly": nothing is cut ahead of the end. */
    private static void shadeAgedIsCut() {
        ColourStacks x = with("", "-");
        Check.onlyRed(x);
        int[] nines = {9, 8, 7, 6, 5, 4, 3, 2, 1, 0, 0};
        for (int n = 0; n <= 10; n++) due("15 nine aged " + n, x.shade(0, 0, n, 0), nines[n]);
        x.weight(0, 1, 1);
        int[] both = {18, 16, 14, 12, 10, 9, 7, 5, 3, 1, 0};
        for (int n = 0; n <= 10; n++) due("15 twice nine aged " + n, x.shade(0, 0, n, 0), both[n]);
    }

    /** "(.. all, if there are none)": what comes is never more than all. */
    private static void shadeOfAll() {
        ColourStacks x = with("mirror 0 10,10,10,10,10;clear 0 0,0,10,0,0", "-", "ababab");
        int[] all = {54, 45, 54};
        for (int eye = 0; eye < 3; eye++) {
            due("15 all " + eye, x.shade(0, 1, 0, eye), all[eye]);
            due("15 all by six " + eye, x.shade(1, 1, 0, eye), all[eye]);
            Check.weights(x, eye, 9, 9, 9, 9, 9);
            due("15 the greatest shade " + eye, x.shade(1, 1, 0, eye), 405);
        }
    }

    // ---- promise 16

    /** "NONE." */
    private static void alikeSuchStacksAndLamp() {
        ColourStacks x = with("glass 0 1,2,3,4,5", "a", "-");
        CHECK.refused("16 one", 2, Check.NONE, i -> x.alike(i, 0, 0));
        CHECK.refused("16 other", 2, Check.NONE, i -> x.alike(1, i, 0));
        CHECK.refused("16 lamp", 3, Check.NONE, i -> x.alike(0, 1, i));
        CHECK.refused("16 both", 2, Check.NONE, i -> x.alike(i, i, 0));
        CHECK.refused("16 lamp of itself", 3, Check.NONE, i -> x.alike(0, 0, i));
        due("16 the last", x.alike(1, 1, 2), 1);
    }

    /** "A STACK is ALIKE itself." */
    private static void alikeItself() {
        ColourStacks x = with("glass 0 1,2,3,4,5;thick 3 9,8,7,6,5", "-", "a", "bbbbbb", "abab", "-", "aaaaab");
        for (int stack = 0; stack < 6; stack++) {
            for (int lamp = 0; lamp < 3; lamp++) due("16 itself " + stack, x.alike(stack, stack, lamp), 1);
        }
        due("16 two without sheets", x.alike(0, 4, 0), 1);
        due("16 one without sheets", x.alike(0, 1, 0), 0);
    }

    /** "if each EYE SEES of both the same, exactly". */
    private static void alikeExactly() {
        ColourStacks x = with("thick 0 1,0,0,0,0;glass 0 0,0,0,0,0;glass 0 1,0,0,0,0", "aaaaaa", "b", "cc", "a", "aaaaa");
        for (int eye = 0; eye < 3; eye++) due("16 both are dark " + eye, x.shade(0, 0, 0, eye), x.shade(1, 0, 0, eye));
        due("16 a millionth of a millionth", x.alike(0, 1, 0), 0);
        due("16 the other way", x.alike(1, 0, 0), 0);
        due("16 other sheets, the same", x.alike(2, 3, 0), 1);
        due("16 a hundredth of it", x.alike(0, 4, 0), 0);
        x.take(0);
        due("16 as many of the same", x.alike(0, 4, 0), 1);
    }

    /** "if each EYE SEES of both the same": one that doesn't is enough. */
    private static void alikeByEachEye() {
        for (int eye = 0; eye < 3; eye++) {
            ColourStacks x = with("glass 0 10,10,10,10,9", "a", "-");
            for (int other = 0; other < 3; other++) x.weight(other, 4, 0);
            due("16 no eye looks", x.alike(0, 1, 0), 1);
            x.weight(eye, 4, 1);
            due("16 eye " + eye + " looks", x.alike(0, 1, 0), 0);
        }
    }

    /** "(By a LAMP is by it as it is, AGED 0, where no n is told.)" */
    private static void alikeAsItIs() {
        ColourStacks x = with("glass 0 9,10,10,10,10", "a", "-");
        due("16 not by a new lamp", x.alike(0, 1, 0), 0);
        due("16 though blue sees the same by the oldest", x.sees(0, 0, 10, 2, 0), x.sees(1, 0, 10, 2, 0));
        // as much of a fading band as of another
        ColourStacks y = with("glass 0 8,0,0,0,0;glass 0 0,0,8,0,0;glass 0 0,0,0,0,0;glass 0 9,0,0,0,0", "a", "b", "c", "d");
        for (int eye = 0; eye < 3; eye++) Check.weights(y, eye, 1, 0, 1, 0, 0);
        due("16 alike by a new lamp", y.alike(0, 1, 0), 1);
        due("16 though not by an older one", y.sees(0, 0, 1, 0, 1), 25);
        due("16 nine of it isn't alike", y.alike(3, 1, 0), 0);
        y.power(1, 0, 0);
        due("17 by the new lamp a false pair", y.falsePairs(0, 0), 1);
        due("17 it is the first", y.falsePairs(0, 1), 1);
    }

    // ---- promise 17

    /** "NONE: lamp, what." */
    private static void falsePairsSuchLampAndWhat() {
        ColourStacks x = with("glass 0 9,10,10,10,10", "a", "-");
        Check.powers(x, 2, 0, 9, 9, 9, 9);
        for (int what = 0; what < 2; what++) {
            int asked = what;
            CHECK.refused("17 lamp", 3, Check.NONE, i -> x.falsePairs(i, asked));
        }
        for (int lamp = 0; lamp < 3; lamp++) {
            int asked = lamp;
            CHECK.refused("17 what", 2, Check.NONE, i -> x.falsePairs(asked, i));
        }
        due("17 by the last lamp", x.falsePairs(2, 0), 1);
    }

    /** "FALSE PAIR by a LAMP: two STACKS that there are"; "-5". */
    private static void falsePairsOfTooFew() {
        ColourStacks x = new ColourStacks();
        Check.powers(x, 1, 0, 0, 0, 0, 0);
        for (int stacks = 0; stacks < 2; stacks++) {
            for (int lamp = 0; lamp < 3; lamp++) {
                due("17 of " + stacks, x.falsePairs(lamp, 0), 0);
                due("17 no first of " + stacks, x.falsePairs(lamp, 1), Check.NOT);
            }
            Check.stack(x, "-");
        }
        due("17 of two that are alike", x.falsePairs(1, 0), 0);
        due("17 no first of two that are alike", x.falsePairs(1, 1), Check.NOT);
        Check.sheets(x, "glass 0 9,9,9,9,9");
        x.lay(1, 0);
        due("17 of two that aren't", x.falsePairs(1, 0), 1);
        due("17 the first of two: 0 and 1", x.falsePairs(1, 1), 1);
        due("17 by a lamp that tells", x.falsePairs(0, 0), 0);
        due("17 no first by a lamp that tells", x.falsePairs(0, 1), Check.NOT);
    }

    /** "STACKS 0 .. 5": by a lamp without light all fifteen pairs of six are false. */
    private static void falsePairsOfSix() {
        ColourStacks x = with("glass 0 9,9,9,9,9", "-", "a", "aa", "aaa", "aaaa", "aaaaa");
        Check.powers(x, 1, 0, 0, 0, 0, 0);
        due("17 of six", x.falsePairs(1, 0), 15);
        due("17 the first of six", x.falsePairs(1, 1), 1);
        due("17 of six by light", x.falsePairs(0, 0), 0);
        for (int lamp = 0; lamp < 3; lamp += 2) Check.powers(x, lamp, 0, 0, 0, 0, 0);
        due("17 of six without any light", x.falsePairs(1, 0), 0);
        due("17 no first without any light", x.falsePairs(1, 1), Check.NOT);
    }

    /** "the first (1): 10 times the lesser STACK, and the other one, the least such number". */
    private static void falsePairsFirst() {
        // by lamp 1, without band 0, alike are those of the same last number
        String clauses = "glass 0 1,1,1,1,1;glass 0 2,1,1,1,1;glass 0 1,2,2,2,2;glass 0 2,2,2,2,2";
        String[][] stacks = {{"a", "c", "d", "-", "ab", "b"}, {"ac", "a", "c", "d", "-", "b"},
            {"-", "aa", "bb", "cc", "a", "b"}, {"a", "b", "c", "d", "aa", "cc"}, {"a", "a", "a", "c", "c", "d"}};
        int[] first = {5, 15, 12, 1, 35};
        int[] pairs = {2, 2, 2, 2, 2};
        for (int i = 0; i < stacks.length; i++) {
            ColourStacks x = with(clauses, stacks[i]);
            x.power(1, 0, 0);
            due("17 pairs " + i, x.falsePairs(1, 0), pairs[i]);
            due("17 first " + i, x.falsePairs(1, 1), first[i]);
        }
        ColourStacks last = with(clauses, "-", "aa", "ac", "c", "a", "b");
        last.power(1, 0, 0);
        due("17 the last of all alone", last.falsePairs(1, 0), 1);
        due("17 the greatest number", last.falsePairs(1, 1), 45);
    }

    /** "A FALSE PAIR is not ALIKE by at least one LAMP."; "but not by each LAMP (of 0 .. 2)". */
    private static void falsePairsByOneLampAtLeast() {
        for (int light = 0; light < 8; light++) {
            ColourStacks x = with("glass 0 10,10,10,10,3", "-", "a");
            for (int lamp = 0; lamp < 3; lamp++) if ((light >> lamp & 1) == 0) x.power(lamp, 4, 0);
            for (int lamp = 0; lamp < 3; lamp++) {
                boolean isFalse = (light >> lamp & 1) == 0 && light != 0;
                due("17 lamps that tell: " + light + ", by " + lamp, x.falsePairs(lamp, 0), isFalse ? 1 : 0);
                due("17 first, lamps that tell: " + light + ", by " + lamp, x.falsePairs(lamp, 1), isFalse ? 1 : Check.NOT);
            }
        }
    }

    // ---- promise 18

    /** "NONE: lamp, place." */
    private static void rankedSuchLampAndPlace() {
        ColourStacks x = new ColourStacks();
        CHECK.refused("18 place of none", 0, Check.NONE, i -> x.ranked(0, i));
        for (int count = 1; count <= 6; count++) {
            Check.stack(x, "-");
            CHECK.refused("18 place of " + count, count, Check.NONE, i -> x.ranked(2, i));
            CHECK.refused("18 lamp", 3, Check.NONE, i -> x.ranked(i, 0));
            due("18 the last of " + count, x.ranked(2, count - 1), count - 1);
        }
    }

    /** "the greatest first; of like ones the least number". */
    private static void rankedLikeOnes() {
        ColourStacks x = with("glass 0 5,5,5,5,5;smoked 5 10,10,10,10,10", "ab", "a", "b", "bb", "-", "a");
        int[] order = {4, 1, 2, 5, 0, 3};
        for (int place = 0; place < 6; place++) due("18 place " + place, x.ranked(0, place), order[place]);
        ColourStacks y = with("glass 0 5,5,5,5,5", "a", "a", "a", "a", "a", "a");
        for (int place = 0; place < 6; place++) due("18 of six like ones " + place, y.ranked(0, place), place);
        y.take(5);
        int[] other = {5, 0, 1, 2, 3, 4};
        for (int place = 0; place < 6; place++) due("18 the last brightest " + place, y.ranked(0, place), other[place]);
    }

    /** "what all three EYES SEE, together": fractions, not shades. */
    private static void rankedExactly() {
        ColourStacks x = with("thick 0 1,0,0,0,0;glass 0 0,0,0,0,0", "b", "aaaaaa", "aaaaa", "ab");
        int[] order = {2, 1, 0, 3};
        for (int place = 0; place < 4; place++) {
            due("18 dark " + place, x.shade(place, 0, 0, 2), 0);
            due("18 place among the dark " + place, x.ranked(0, place), order[place]);
        }
    }

    /** "what all three EYES SEE, together": nine times 6, 1 and 3 and 3, 5 and 3. */
    private static void rankedByAllEyes() {
        ColourStacks x = with("glass 0 10,0,0,0,0;glass 0 0,10,0,0,0;glass 0 0,0,10,0,0", "a", "b", "c");
        Check.weights(x, 0, 6, 1, 0, 0, 0);
        Check.weights(x, 1, 0, 3, 5, 0, 0);
        Check.weights(x, 2, 0, 3, 3, 0, 0);
        int[] order = {2, 1, 0};
        for (int place = 0; place < 3; place++) due("18 together " + place, x.ranked(0, place), order[place]);
        x.weight(2, 0, 3);
        int[] other = {0, 2, 1};
        for (int place = 0; place < 3; place++) due("18 together now " + place, x.ranked(0, place), other[place]);
    }

    /** "of like ones the least number": by a lamp without light all are like. */
    private static void rankedWithoutLight() {
        ColourStacks x = with("glass 0 5,5,5,5,5", "aaa", "aa", "a", "-", "aaaa", "aaaaa");
        Check.powers(x, 1, 0, 0, 0, 0, 0);
        int[] order = {3, 2, 1, 0, 4, 5};
        for (int place = 0; place < 6; place++) {
            due("18 by light " + place, x.ranked(2, place), order[place]);
            due("18 without light " + place, x.ranked(1, place), place);
        }
    }

    /** "(By a LAMP is by it as it is, AGED 0, where no n is told.)": a little more of a fading band is brighter. */
    private static void rankedAsItIs() {
        ColourStacks x = with("mirror 1 3,10,10,10,10;mirror 1 10,10,4,10,10;mirror 1 2,10,10,10,10", "b", "a", "c");
        for (int eye = 0; eye < 3; eye++) Check.weights(x, eye, 1, 0, 1, 0, 0);
        int[] order = {2, 1, 0};
        for (int place = 0; place < 3; place++) due("18 by a new lamp " + place, x.ranked(0, place), order[place]);
        ColourStacks y = with("glass 0 8,0,0,0,0;glass 0 0,0,8,0,0;mirror 0 0,0,0,0,0", "b", "a", "c");
        for (int eye = 0; eye < 3; eye++) Check.weights(y, eye, 1, 0, 1, 0, 0);
        due("18 like ones by a new lamp, though one fades", y.ranked(0, 1), 0);
        y.number(0, 0, 9);
        due("18 a little more", y.ranked(0, 1), 1);
        y.number(1, 2, 10);
        due("18 a little less", y.ranked(0, 1), 0);
    }
}
