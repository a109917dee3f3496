/**
 * Promises 25 to 30 at their edges: a test for each sentence of the document that names one. The sentence
 * stands above its test.
 */
public final class JudgedEdgesTest {
    private static final Check CHECK = new Check("JudgedEdgesTest");
    private static final String[] WORDS = {"glass", "thick", "smoked", "mirror", "dyed", "clear"};
    private static final int ALL_KINDS = 63, ALL_FIGURES = 1023;

    private static void due(String call, long got, long want) {
        CHECK.due(call, got, want);
    }

    public static void main(String[] args) {
        wasSuchNumbers();
        wasNothing();
        wasFewerThanThree();
        wasByTheFirstThree();
        wasEachKind();
        wasEachFigure();
        wasOfOneNotInTheStack();
        wasAtEachPlace();
        wasNone();
        wasOfExtremes();
        wasByEachLampOfEachSheet();
        oddsSuchNumbers();
        oddsOfNoSheets();
        oddsOfNoneDrawn();
        oddsOfFourDrawn();
        oddsOfOneAndTwentySeeds();
        oddsSeedsWrapAround();
        oddsDrawsWrapAround();
        oddsBelowHowManyThereAre();
        oddsThatIsVOrMore();
        oddsInLowestTerms();
        oddsByEachLamp();
        spellSuchStack();
        spellNone();
        spellOneToSix();
        spellEachWordAndFigure();
        paperSuchPlace();
        paperHoldsTheLatest();
        judgeSuchListAndLamp();
        judgeNothing();
        judgeAnEmptyRow();
        judgeEachPlace();
        judgeStacksThatAreNot();
        judgeRowThatIsNotWhole();
        judgeOfExtremes();
        judgeByEachLamp();
        changeSuchList();
        changeNothing();
        changeAnEmptyRow();
        changeWholeRowsAlone();
        changeUpToSix();
        changeWhatIsRefused();
        changeCountsWhatStays();
        CHECK.done();
    }

    private static ColourStacks with(String clauses, String... stacks) {
        ColourStacks x = new ColourStacks();
        Check.sheets(x, clauses);
        for (String stack : stacks) Check.stack(x, stack);
        return x;
    }

    // ---- promise 25

    /** "NONE: sheet, stack, lamp, list, what; NOTHING; BEYOND": what is named first is answered first. */
    private static void wasSuchNumbers() {
        ColourStacks x = with("glass 0 1,1,1,1,1;glass 0 2,2,2,2,2", "a", "-", "b");
        Check.tell(x, 0, 5, 4, 5);
        Check.tell(x, 1, 5, 4);
        for (int list = 0; list < 3; list++) {
            int asked = list;
            CHECK.refused("25 sheet, list " + list, 2, Check.NONE, i -> x.was(i, 0, 0, asked, 0));
            CHECK.refused("25 stack, list " + list, 3, Check.NONE, i -> x.was(0, i, 0, asked, 0));
            CHECK.refused("25 lamp, list " + list, 3, Check.NONE, i -> x.was(0, 0, i, asked, 0));
            CHECK.refused("25 what, list " + list, 2, Check.NONE, i -> x.was(0, 0, 0, asked, i));
        }
        CHECK.refused("25 list", 4, Check.NONE, i -> x.was(0, 0, 0, i, 0));
        CHECK.refused("25 list and what", 4, Check.NONE, i -> x.was(0, 0, 0, i, i));
        Check.tell(x, 3, 10, 9, 10);
        due("25 the last", x.was(1, 2, 2, 3, 1), ALL_FIGURES);
        due("25 the first", x.was(0, 0, 0, 0, 0), 1 | 32);
    }

    /** "NOTHING". */
    private static void wasNothing() {
        ColourStacks x = with("glass 0 1,1,1,1,1", "a", "-");
        for (int list = 0; list < 4; list++) {
            for (int what = 0; what < 2; what++) due("25 nothing held", x.was(0, 1, 2, list, what), Check.NOTHING);
        }
        x.list(2, 0);
        due("25 an empty row is no nothing", x.was(0, 1, 2, 2, 0), Check.BEYOND);
    }

    /** "BEYOND: it has fewer than three numbers." */
    private static void wasFewerThanThree() {
        ColourStacks x = with("glass 0 10,10,10,10,10", "-");
        int[] told = {54, 45, 54, 1};
        for (int n = 0; n <= 4; n++) {
            x.list(1, n);
            for (int i = 0; i < n; i++) x.put(1, i, told[i]);
            due("25 kinds by " + n, x.was(0, 0, 0, 1, 0), n < 3 ? Check.BEYOND : ALL_KINDS);
            due("25 figures by " + n, x.was(0, 0, 0, 1, 1), n < 3 ? Check.BEYOND : ALL_FIGURES);
        }
    }

    /** "by what the first three numbers of a LIST tell": each of them, and none behind them. */
    private static void wasByTheFirstThree() {
        ColourStacks x = with("glass 0 5,5,5,5,5", "a");
        x.list(0, 18);
        int[] told = {27, 22, 27};
        for (int i = 0; i < 18; i++) x.put(0, i, i < 3 ? told[i] : 999);
        due("25 by the first three of eighteen", x.was(0, 0, 0, 0, 0), 1 | 32);
        for (int eye = 0; eye < 3; eye++) {
            for (int off = -1; off <= 1; off += 2) {
                x.put(0, eye, told[eye] + off);
                due("25 kinds, the " + eye + " off", x.was(0, 0, 0, 0, 0), 0);
                due("25 figures, the " + eye + " off", x.was(0, 0, 0, 0, 1), 0);
            }
            x.put(0, eye, told[eye]);
        }
    }

    /** "KINDS (bits), by which .. SHADES would be so": bits 0 to 5. */
    private static void wasEachKind() {
        int[][] shades = {{28, 18, 12}, {15, 7, 3}, {20, 12, 8}, {33, 32, 45}, {14, 3, 3}, {32, 27, 32}};
        for (int kind = 0; kind < 6; kind++) {
            for (int own = 0; own < 6; own++) {
                ColourStacks x = with(WORDS[own] + " 7 2,3,4,5,6", "a");
                Check.tell(x, 3, shades[kind]);
                due("25 " + WORDS[kind] + " by a " + WORDS[own], x.was(0, 0, 0, 3, 0), 1 << kind);
                due("25 its kind stays", x.sheet(0, 0), own);
            }
        }
    }

    /** "FIGURES (bits) likewise": bits 0 to 9. */
    private static void wasEachFigure() {
        for (int figure = 0; figure <= 9; figure++) {
            ColourStacks x = with("smoked " + (9 - figure) + " 10,10,10,10,10", "a");
            Check.tell(x, 0, 54 * figure / 10, 45 * figure / 10, 54 * figure / 10);
            due("25 smoked by " + figure, x.was(0, 0, 0, 0, 1), 1 << figure);
            due("25 its figure stays", x.sheet(0, 1), 9 - figure);
            x.becomes(0, 3, 4);
            Check.tell(x, 0, 54 - (54 * figure + 9) / 10, 45 - (45 * figure + 9) / 10, 54 - (54 * figure + 9) / 10);
            due("25 mirror by " + figure, x.was(0, 0, 0, 0, 1), 1 << figure);
        }
        // a dyed one's figure counts modulo 5: two bits at a time
        for (int band = 0; band < 5; band++) {
            ColourStacks x = with("dyed 0 10,10,10,10,10", "a");
            int[][] shades = {{54, 45, 18}, {54, 36, 36}, {45, 18, 54}, {36, 36, 54}, {27, 45, 54}};
            Check.tell(x, 0, shades[band]);
            due("25 dyed of band " + band, x.was(0, 0, 0, 0, 1), 33 << band);
        }
    }

    /** "WAS asks a SHEET .., and of one that is not in the STACK, too (all, or none)." */
    private static void wasOfOneNotInTheStack() {
        ColourStacks x = with("glass 0 5,5,5,5,5;dyed 3 1,2,3,4,5", "aa", "-");
        Check.tell(x, 0, 13, 11, 13);
        Check.tell(x, 1, 13, 11, 14);
        Check.tell(x, 2, 54, 45, 54);
        due("25 all kinds", x.was(1, 0, 0, 0, 0), ALL_KINDS);
        due("25 all figures", x.was(1, 0, 0, 0, 1), ALL_FIGURES);
        due("25 no kind", x.was(1, 0, 0, 1, 0), 0);
        due("25 no figure", x.was(1, 0, 0, 1, 1), 0);
        for (int sheet = 0; sheet < 2; sheet++) {
            due("25 all kinds where none lies", x.was(sheet, 1, 0, 2, 0), ALL_KINDS);
            due("25 all figures where none lies", x.was(sheet, 1, 0, 2, 1), ALL_FIGURES);
            due("25 no kind where none lies", x.was(sheet, 1, 0, 0, 0), 0);
            due("25 no figure where none lies", x.was(sheet, 1, 0, 0, 1), 0);
        }
    }

    /** "WAS asks a SHEET at each place where it lies": of six places, too. */
    private static void wasAtEachPlace() {
        ColourStacks x = with("smoked 5 10,10,10,10,10;glass 0 10,10,10,10,10", "abab", "aaaaaa", "bbbbba");
        int[][] shades = {{13, 11, 13}, {0, 0, 0}, {27, 22, 27}};
        int[] kinds = {12, 12, 12};
        int[] figures = {32, 63, 32};
        for (int stack = 0; stack < 3; stack++) {
            Check.tell(x, 0, shades[stack]);
            due("25 kinds of " + stack, x.was(0, stack, 0, 0, 0), kinds[stack]);
            due("25 figures of " + stack, x.was(0, stack, 0, 0, 1), figures[stack]);
        }
        Check.tell(x, 0, 27, 22, 27);
        due("25 at both places or at none", x.was(0, 0, 0, 0, 0), 0);
        // 0.81 of 54 and 45 is what nine and nine let, 0.9 what one of them would
        Check.tell(x, 0, 43, 36, 43);
        due("25 nine at both places", x.was(0, 0, 0, 0, 1), 1 << 9);
        Check.tell(x, 0, 48, 40, 48);
        due("25 nine at one place alone", x.was(0, 0, 0, 0, 1), 0);
    }

    /** "bits": where none fits, none is set. */
    private static void wasNone() {
        ColourStacks x = with("smoked 5 3,3,3,3,3", "a");
        Check.tell(x, 0, 0, 0, 0);
        due("25 by the figure 0 alone", x.was(0, 0, 0, 0, 1), 1);
        due("25 by no kind", x.was(0, 0, 0, 0, 0), 0);
        Check.tell(x, 0, 54, 45, 53);
        due("25 by no figure", x.was(0, 0, 0, 0, 1), 0);
        due("25 by no kind, either", x.was(0, 0, 0, 0, 0), 0);
    }

    /** "a row of .. ints": told shades may be any. */
    private static void wasOfExtremes() {
        ColourStacks x = with("glass 0 0,0,0,0,0", "a");
        for (int told : new int[] {Integer.MIN_VALUE, -1, 1, Integer.MAX_VALUE}) {
            for (int eye = 0; eye < 3; eye++) {
                Check.tell(x, 0, 0, 0, 0);
                x.put(0, eye, told);
                due("25 of " + told, x.was(0, 0, 0, 0, 1), 0);
            }
        }
        Check.tell(x, 0, 0, 0, 0);
        due("25 of 0", x.was(0, 0, 0, 0, 1), ALL_FIGURES);
    }

    /** "SHADES .. of a STACK by a LAMP": each sheet, by its own kind and figure, by each lamp. */
    private static void wasByEachLampOfEachSheet() {
        ColourStacks x = with("smoked 5 10,10,10,10,10;mirror 2 10,10,10,10,10;glass 1 8,8,8,8,8", "a", "b", "c", "-");
        Check.ownPowers(x);
        int[] powers = {9, 3, 1};
        // what each lets as kinds 0 1 2 3 5, by tenths: 10 10 5 5 10, 10 10 2 8 10, 8 6.4 0.8 9.2 8
        int[] kinds = {4 | 8, 8, 1 | 32};
        int[] tenths = {5, 8, 8};
        int[] figures = {1 << 5, 1 << 2, ALL_FIGURES};
        for (int lamp = 0; lamp < 3; lamp++) {
            for (int sheet = 0; sheet < 3; sheet++) {
                int red = powers[lamp] * 6 * tenths[sheet] / 10, green = powers[lamp] * 5 * tenths[sheet] / 10;
                Check.tell(x, 0, red, green, red);
                due("25 kinds of " + sheet + " by " + lamp, x.was(sheet, sheet, lamp, 0, 0), kinds[sheet]);
                due("25 figures of " + sheet + " by " + lamp, x.was(sheet, sheet, lamp, 0, 1), figures[sheet]);
                due("25 not of none laid, " + sheet + " by " + lamp, x.was(sheet, 3, lamp, 0, 0), 0);
            }
        }
    }

    // ---- promise 26

    /** "NO: k, m, lamp, eye, part". */
    private static void oddsSuchNumbers() {
        ColourStacks x = with("glass 0 5,5,5,5,5");
        CHECK.refused("26 k", 5, Check.NO, i -> x.odds(i, 1, 1, 0, 0, 0, 0));
        for (int m : new int[] {0, -1, 21, 22, Integer.MIN_VALUE, Integer.MAX_VALUE}) {
            due("26 m " + m, x.odds(1, 1, m, 0, 0, 0, 0), Check.NO);
        }
        CHECK.refused("26 lamp", 3, Check.NO, i -> x.odds(1, 1, 1, i, 0, 0, 0));
        CHECK.refused("26 eye", 3, Check.NO, i -> x.odds(1, 1, 1, 0, i, 0, 0));
        CHECK.refused("26 part", 2, Check.NO, i -> x.odds(1, 1, 1, 0, 0, 0, i));
        due("26 the last", x.odds(4, -1, 20, 2, 2, 3, 1), 1);
        due("26 the first", x.odds(0, 0, 1, 0, 0, 0, 0), 1);
    }

    /** "NO: ..; there are no SHEETS." */
    private static void oddsOfNoSheets() {
        ColourStacks x = new ColourStacks();
        for (int k = 0; k <= 4; k++) {
            due("26 no sheets, above", x.odds(k, 1, 1, 0, 0, 0, 0), Check.NO);
            due("26 no sheets, below", x.odds(k, 1, 20, 0, 0, 0, 1), Check.NO);
        }
        Check.sheets(x, "glass 0 5,5,5,5,5");
        due("26 one sheet", x.odds(1, 1, 1, 0, 0, 27, 0), 1);
    }

    /** "k SHEETS (0 .. 4)": none is drawn, and all is seen. */
    private static void oddsOfNoneDrawn() {
        ColourStacks x = with("glass 0 0,0,0,0,0");
        int[] all = {54, 45, 54};
        for (int eye = 0; eye < 3; eye++) {
            for (int m = 1; m <= 20; m += 19) {
                due("26 all seen", x.odds(0, 3, m, 1, eye, all[eye], 0), 1);
                due("26 all seen, below", x.odds(0, 3, m, 1, eye, all[eye], 1), 1);
                due("26 no more", x.odds(0, 3, m, 1, eye, all[eye] + 1, 0), 0);
                due("26 no more, below", x.odds(0, 3, m, 1, eye, all[eye] + 1, 1), 1);
            }
        }
    }

    /** "k SHEETS (0 .. 4)": four are drawn and laid, of one SHEET four times that one. */
    private static void oddsOfFourDrawn() {
        ColourStacks x = with("glass 0 5,5,5,5,5");
        int[] shades = {54, 27, 13, 6, 3};
        for (int k = 0; k <= 4; k++) {
            due("26 of " + k, x.odds(k, 99, 20, 0, 0, shades[k], 0), 1);
            due("26 not more of " + k, x.odds(k, 99, 20, 0, 0, shades[k] + 1, 0), 0);
        }
        due("26 nothing is laid", x.count(1), 0);
    }

    /** By the document's words: the first draws' places of so many SHEETS. */
    private static int[] drawn(int seed, int k, int sheets) {
        int[] draws = new int[k];
        long z = seed;
        for (int i = 0; i < k; i++) {
            z = Math.floorMod(z * 1103515245L + 12345, 1L << 32);
            draws[i] = (int) (z % (1L << 31) / 65536 % sheets);
        }
        return draws;
    }

    /** Sheet i lets 10 times i + 1 through of BAND 0; RED sees 81 of that BAND, by what was drawn. */
    private static ColourStacks rising(int sheets) {
        ColourStacks x = new ColourStacks();
        for (int i = 1; i <= sheets; i++) Check.sheets(x, "glass 0 " + i + ",0,0,0,0");
        Check.weights(x, 0, 9, 0, 0, 0, 0);
        return x;
    }

    private static int shadeOf(int[] draws) {
        int above = 81, below = 1;
        for (int draw : draws) {
            above *= draw + 1;
            below *= 10;
        }
        return above / below;
    }

    private static void drawsAre(ColourStacks x, int seed, int k, int sheets) {
        int shade = shadeOf(drawn(seed, k, sheets));
        due("26 seed " + seed + ", draws " + k, x.odds(k, seed, 1, 0, 0, shade, 0), 1);
        due("26 seed " + seed + ", not more", x.odds(k, seed, 1, 0, 0, shade + 1, 0), 0);
    }

    private static void oddsAre(ColourStacks x, int seed, int m, int sheets) {
        int good = 0;
        for (int i = 0; i < m; i++) if (shadeOf(drawn(seed + i, 1, sheets)) >= 40) good++;
        int common = m;
        while (m % common != 0 || good % common != 0) common--;
        due("26 seed " + seed + ", m " + m, x.odds(1, seed, m, 0, 0, 40, 0), good / common);
        due("26 seed " + seed + ", m " + m + ", below", x.odds(1, seed, m, 0, 0, 40, 1), m / common);
    }

    /** "of m SEEDS (1 .. 20), SEED and each 1 more". */
    private static void oddsOfOneAndTwentySeeds() {
        ColourStacks x = rising(8);
        for (int m = 1; m <= 20; m++) {
            oddsAre(x, 1, m, 8);
            oddsAre(x, 4711, m, 8);
        }
    }

    /** "SEED and each 1 more (an int)": behind the greatest int comes the least. */
    private static void oddsSeedsWrapAround() {
        ColourStacks x = rising(8);
        for (int m = 1; m <= 20; m++) {
            oddsAre(x, Integer.MAX_VALUE, m, 8);
            oddsAre(x, Integer.MAX_VALUE - 10, m, 8);
            oddsAre(x, -10, m, 8);
        }
        oddsAre(x, Integer.MIN_VALUE, 20, 8);
    }

    /** "z becomes z times 1103515245, and 12345 more (an int; ..); (z without its sign's bit by 65536, cut)". */
    private static void oddsDrawsWrapAround() {
        ColourStacks x = rising(8);
        for (int seed : new int[] {0, 1, -1, 2, 3, 65536, Integer.MAX_VALUE, Integer.MIN_VALUE, 1 << 30, -12345}) {
            for (int k = 0; k <= 4; k++) drawsAre(x, seed, k, 8);
        }
    }

    /** "each a DRAW below how many there are": "modulo that". */
    private static void oddsBelowHowManyThereAre() {
        for (int sheets = 1; sheets <= 8; sheets++) {
            ColourStacks x = rising(sheets);
            for (int seed = -3; seed <= 3; seed++) {
                drawsAre(x, seed, 1, sheets);
                drawsAre(x, seed * 1000003, 2, sheets);
            }
            oddsAre(x, 5, 20, sheets);
        }
    }

    /** "a SHADE .. that is v or more": any int may be v. */
    private static void oddsThatIsVOrMore() {
        ColourStacks x = with("glass 0 5,5,5,5,5;mirror 0 1,1,1,1,1");
        for (int v : new int[] {Integer.MIN_VALUE, -1, 0, 1, 12, 13}) {
            due("26 all are " + v + " or more", x.odds(2, 1, 20, 0, 2, v, 0), 1);
            due("26 all are " + v + " or more, below", x.odds(2, 1, 20, 0, 2, v, 1), 1);
        }
        for (int v : new int[] {55, 9999, Integer.MAX_VALUE}) {
            due("26 none is " + v + " or more", x.odds(2, 1, 20, 0, 2, v, 0), 0);
            due("26 none is " + v + " or more, below", x.odds(2, 1, 20, 0, 2, v, 1), 1);
        }
    }

    /** "a fraction in lowest terms": of two SHEETS seeds 0 to 2 and 6 to 9 draw the first, 3 to 5 the second. */
    private static void oddsInLowestTerms() {
        ColourStacks x = with("glass 0 5,5,5,5,5;glass 0 0,0,0,0,0");
        int[][] seedsAndOdds = {{0, 3, 1, 1}, {3, 3, 0, 1}, {0, 6, 1, 2}, {1, 4, 1, 2}, {1, 3, 2, 3}, {0, 4, 3, 4},
            {6, 4, 1, 1}, {5, 1, 0, 1}, {2, 8, 5, 8}, {0, 10, 7, 10}, {2, 6, 1, 2}};
        for (int[] it : seedsAndOdds) {
            due("26 above, " + it[1] + " from " + it[0], x.odds(1, it[0], it[1], 0, 0, 1, 0), it[2]);
            due("26 below, " + it[1] + " from " + it[0], x.odds(1, it[0], it[1], 0, 0, 1, 1), it[3]);
        }
    }

    /** "a SHADE of an EYE by a LAMP": each eye by each lamp, of one SHEET drawn. */
    private static void oddsByEachLamp() {
        ColourStacks x = with("glass 0 5,5,5,5,5");
        Check.ownPowers(x);
        int[][] shades = {{27, 22, 27}, {9, 7, 9}, {3, 2, 3}};
        for (int lamp = 0; lamp < 3; lamp++) {
            for (int eye = 0; eye < 3; eye++) {
                due("26 eye " + eye + " by " + lamp, x.odds(1, 8, 20, lamp, eye, shades[lamp][eye], 0), 1);
                due("26 not more, eye " + eye + " by " + lamp, x.odds(1, 8, 20, lamp, eye, shades[lamp][eye] + 1, 0), 0);
            }
        }
    }

    // ---- promises 27, 28

    private static void spelled(ColourStacks x, int stack, String want) {
        due("27 bytes of " + want, x.spell(stack), want.length());
        due("36 bytes of the paper " + want, x.count(3), want.length());
        for (int i = 0; i < want.length(); i++) due("28 byte " + i + " of " + want, x.paper(i), want.charAt(i));
        due("28 behind " + want, x.paper(want.length()), Check.NONE);
    }

    /** "NONE." */
    private static void spellSuchStack() {
        ColourStacks x = with("dyed 4 1,1,1,1,1", "a", "aa");
        CHECK.refused("27 no stack", 2, Check.NONE, x::spell);
        due("27 the paper is as it was", x.count(3), 0);
        spelled(x, 1, "dyed4/dyed4");
        CHECK.refused("27 no stack now", 2, Check.NONE, x::spell);
        due("27 the paper is as it was now", Check.paper(x).equals("dyed4/dyed4") ? 1 : 0, 1);
    }

    /** "- if it has none". */
    private static void spellNone() {
        ColourStacks x = with("clear 9 1,1,1,1,1", "-", "a");
        spelled(x, 0, "-");
        spelled(x, 1, "clear9");
        x.take(1);
        due("27 the paper stays till it is spelled", x.count(3), 6);
        spelled(x, 1, "-");
        ColourStacks none = with("", "-");
        spelled(none, 0, "-");
    }

    /** "its SHEETS' WORDS and FIGURES (no blank between), the lowest first, with / between". */
    private static void spellOneToSix() {
        ColourStacks x = with("smoked 9 1,1,1,1,1;mirror 0 1,1,1,1,1", "-");
        String want = "";
        for (int height = 1; height <= 6; height++) {
            x.lay(0, height % 2);
            want += (height == 1 ? "" : "/") + (height % 2 == 1 ? "mirror0" : "smoked9");
            spelled(x, 0, want);
        }
        due("27 the longest", want.length(), 47);
    }

    /** "THE PAPER becomes a STACK SPELLED": each WORD, each FIGURE, as they are now. */
    private static void spellEachWordAndFigure() {
        for (int kind = 0; kind < 6; kind++) {
            ColourStacks x = with("glass 0 1,1,1,1,1", "a");
            for (int figure = 0; figure <= 9; figure++) {
                x.becomes(0, kind, figure);
                spelled(x, 0, WORDS[kind] + figure);
            }
        }
    }

    /** "Byte i of THE PAPER. NONE." */
    private static void paperSuchPlace() {
        ColourStacks x = with("mirror 8 1,1,1,1,1", "aaaaaa", "-");
        CHECK.refused("28 nothing at first", 0, Check.NONE, x::paper);
        x.spell(0);
        due("28 first of the longest", x.paper(0), 'm');
        due("28 last of the longest", x.paper(46), '8');
        CHECK.refused("28 the longest", 47, Check.NONE, x::paper);
        x.spell(1);
        due("28 the only one", x.paper(0), '-');
        CHECK.refused("28 the shortest", 1, Check.NONE, x::paper);
    }

    /** "THE PAPER holds the latest one (nothing at first)." */
    private static void paperHoldsTheLatest() {
        ColourStacks x = with("glass 1 1,1,1,1,1;clear 2 1,1,1,1,1", "ab", "b");
        due("28 nothing at first", x.count(3), 0);
        x.spell(0);
        due("28 the first one", Check.paper(x).equals("glass1/clear2") ? 1 : 0, 1);
        x.becomes(0, 3, 3);
        x.take(0);
        due("28 as it was spelled", Check.paper(x).equals("glass1/clear2") ? 1 : 0, 1);
        x.spell(1);
        due("28 the latest", Check.paper(x).equals("clear2") ? 1 : 0, 1);
        x.spell(0);
        due("28 the latest now", Check.paper(x).equals("mirror3") ? 1 : 0, 1);
    }

    // ---- promise 29

    /** "NONE: list, lamp; NOTHING." */
    private static void judgeSuchListAndLamp() {
        ColourStacks x = with("", "-");
        Check.tell(x, 0, 54, 45, 54);
        CHECK.refused("29 list", 4, Check.NONE, i -> x.judge(i, 0));
        CHECK.refused("29 lamp", 3, Check.NONE, i -> x.judge(0, i));
        CHECK.refused("29 lamp ahead of nothing", 3, Check.NONE, i -> x.judge(1, i));
        Check.tell(x, 3, 54, 45, 53);
        due("29 the last", x.judge(3, 2), 2);
        due("29 the first", x.judge(0, 0), Check.NOT);
    }

    /** "NOTHING". */
    private static void judgeNothing() {
        ColourStacks x = with("", "-");
        for (int list = 0; list < 4; list++) {
            for (int lamp = 0; lamp < 3; lamp++) due("29 nothing held", x.judge(list, lamp), Check.NOTHING);
        }
    }

    /** "-5: none": an empty row tells nothing that is otherwise, whether there are STACKS or not. */
    private static void judgeAnEmptyRow() {
        ColourStacks x = new ColourStacks();
        x.list(2, 0);
        due("29 of no stacks", x.judge(2, 0), Check.NOT);
        Check.stack(x, "-");
        due("29 of one stack", x.judge(2, 0), Check.NOT);
    }

    private static ColourStacks sixTold() {
        ColourStacks x = with("glass 0 5,5,5,5,5", "-", "a", "aa", "aaa", "aaaa", "aaaaa");
        Check.tell(x, 1, 54, 45, 54, 27, 22, 27, 13, 11, 13, 6, 5, 6, 3, 2, 3, 1, 1, 1);
        return x;
    }

    /** "the first place that is otherwise"; "JUDGED is told as the place of a number." */
    private static void judgeEachPlace() {
        ColourStacks x = sixTold();
        due("29 all six", x.judge(1, 0), Check.NOT);
        for (int i = 17; i >= 0; i--) {
            x.put(1, i, (int) x.get(1, i) + (i % 2 == 0 ? 1 : -1));
            due("29 the first is " + i, x.judge(1, 0), i);
        }
    }

    /** "STACKS 0, 1, ..": "or that there is no such STACK for". */
    private static void judgeStacksThatAreNot() {
        for (int stacks = 0; stacks <= 6; stacks++) {
            ColourStacks x = new ColourStacks();
            Check.emptyStacks(x, stacks);
            x.list(0, 18);
            for (int i = 0; i < 18; i++) x.put(0, i, i % 3 == 1 ? 45 : 54);
            due("29 of " + stacks, x.judge(0, 1), stacks < 6 ? 3 * stacks : Check.NOT);
            Check.powers(x, 1, 0, 0, 0, 0, 0);
            x.list(0, 18);
            due("29 zeroes of " + stacks, x.judge(0, 1), stacks < 6 ? 3 * stacks : Check.NOT);
        }
    }

    /** "three numbers each": a last row that isn't whole tells the shades that it has. */
    private static void judgeRowThatIsNotWhole() {
        int[] told = {54, 45, 54, 54, 45};
        for (int n = 0; n <= 5; n++) {
            ColourStacks x = with("", "-");
            x.list(0, n);
            for (int i = 0; i < n; i++) x.put(0, i, told[i]);
            due("29 " + n + " of one stack", x.judge(0, 0), n <= 3 ? Check.NOT : 3);
            Check.stack(x, "-");
            due("29 " + n + " of two stacks", x.judge(0, 0), Check.NOT);
            if (n > 0) {
                x.put(0, n - 1, 44);
                due("29 the last of " + n, x.judge(0, 0), n - 1);
            }
        }
    }

    /** "a row of .. ints": any int is otherwise but the shade. */
    private static void judgeOfExtremes() {
        ColourStacks x = with("glass 0 0,0,0,0,0", "a");
        Check.tell(x, 0, 0, 0, 0);
        due("29 all 0", x.judge(0, 0), Check.NOT);
        for (int told : new int[] {Integer.MIN_VALUE, -1, 1, Integer.MAX_VALUE}) {
            x.put(0, 2, told);
            due("29 of " + told, x.judge(0, 0), 2);
        }
    }

    /** "JUDGED by a LAMP": each stack's and each eye's shade by each lamp. */
    private static void judgeByEachLamp() {
        ColourStacks x = with("glass 0 5,5,5,5,5", "-", "a", "aa");
        Check.ownPowers(x);
        Check.tell(x, 0, 54, 45, 54, 27, 22, 27, 13, 11, 13);
        Check.tell(x, 1, 18, 15, 18, 9, 7, 9, 4, 3, 4);
        Check.tell(x, 2, 6, 5, 6, 3, 2, 3, 1, 1, 1);
        for (int list = 0; list < 3; list++) {
            for (int lamp = 0; lamp < 3; lamp++) {
                due("29 list " + list + " by " + lamp, x.judge(list, lamp), list == lamp ? Check.NOT : 0);
            }
        }
    }

    // ---- promise 30

    /** "NONE". */
    private static void changeSuchList() {
        ColourStacks x = with("glass 0 5,5,5,5,5");
        for (int list = 0; list < 4; list++) Check.tell(x, list, 0, list, 1);
        CHECK.refused("30 list", 4, Check.NONE, x::change);
        for (int list = 0; list < 4; list++) {
            due("30 not yet", x.sheet(0, 10 + list), 5);
            due("30 done by " + list, x.change(list), 1);
            due("30 now", x.sheet(0, 10 + list), 1);
        }
    }

    /** "NOTHING." */
    private static void changeNothing() {
        ColourStacks x = with("glass 0 5,5,5,5,5");
        for (int list = 0; list < 4; list++) due("30 nothing held", x.change(list), Check.NOTHING);
    }

    /** "how many ROWS were done": of an empty row none. */
    private static void changeAnEmptyRow() {
        ColourStacks x = with("glass 0 5,5,5,5,5");
        x.list(3, 0);
        due("30 no rows", x.change(3), 0);
        for (int band = 0; band < 5; band++) due("30 nothing done", x.sheet(0, 10 + band), 5);
    }

    /** "what is behind the last whole ROW isn't looked at". */
    private static void changeWholeRowsAlone() {
        int[] rows = {0, 0, 1, 0, 1, 2, 0, 2, 3};
        for (int n = 0; n <= 9; n++) {
            ColourStacks x = with("glass 0 5,5,5,5,5");
            x.list(0, n);
            for (int i = 0; i < n; i++) x.put(0, i, rows[i]);
            due("30 rows of " + n, x.change(0), n / 3);
            for (int band = 0; band < 5; band++) {
                due("30 band " + band + " by " + n, x.sheet(0, 10 + band), band < n / 3 ? band + 1 : 5);
            }
        }
    }

    /** "a row of 0 .. 18 ints": six ROWS, of the first and of the last SHEET and BAND, 0 and 10; the later counts. */
    private static void changeUpToSix() {
        ColourStacks x = new ColourStacks();
        Check.clearSheets(x, 8);
        Check.tell(x, 0, 0, 0, 0, 7, 4, 1, 7, 0, 2, 0, 4, 3, 3, 2, 10, 7, 4, 9);
        due("30 six rows", x.change(0), 6);
        due("30 first of the first", x.sheet(0, 10), 0);
        due("30 last of the first", x.sheet(0, 14), 3);
        due("30 first of the last", x.sheet(7, 10), 2);
        due("30 the later one", x.sheet(7, 14), 9);
        due("30 the greatest", x.sheet(3, 12), 10);
    }

    /** "as by number() (what is refused isn't done ..)". */
    private static void changeWhatIsRefused() {
        int[][] refused = {{-1, 0, 1}, {1, 0, 1}, {0, -1, 1}, {0, 5, 1}, {0, 0, -1}, {0, 0, 11},
            {Integer.MIN_VALUE, 0, 1}, {Integer.MAX_VALUE, 0, 1}, {0, Integer.MIN_VALUE, 1},
            {0, Integer.MAX_VALUE, 1}, {0, 0, Integer.MIN_VALUE}, {0, 0, Integer.MAX_VALUE}};
        for (int[] row : refused) {
            ColourStacks x = with("glass 0 5,5,5,5,5");
            Check.tell(x, 0, 0, 1, 6, row[0], row[1], row[2], 0, 2, 7);
            due("30 two of three", x.change(0), 2);
            int[] numbers = {5, 6, 7, 5, 5};
            for (int band = 0; band < 5; band++) due("30 number " + band, x.sheet(0, 10 + band), numbers[band]);
            Check.tell(x, 0, row);
            due("30 none of one", x.change(0), 0);
        }
        ColourStacks none = new ColourStacks();
        Check.tell(none, 0, 0, 0, 0);
        due("30 there are no sheets", none.change(0), 0);
    }

    /** "how many ROWS were done": one that puts what stands there is done, too, and what was 0. */
    private static void changeCountsWhatStays() {
        ColourStacks x = with("glass 0 0,10,5,5,5");
        Check.tell(x, 0, 0, 0, 0, 0, 1, 10, 0, 0, 1);
        due("30 as they stand", x.change(0), 3);
        due("30 the first band", x.sheet(0, 10), 1);
        due("30 the second band", x.sheet(0, 11), 10);
    }
}
