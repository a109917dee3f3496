/** Promises 25 to 30: what a sheet was, odds, spelled, judged, changed. */
public final class JudgedTest {
    private static final Check CHECK = new Check("JudgedTest");

    private static void due(String call, long got, long want) {
        CHECK.due(call, got, want);
    }

    public static void main(String[] args) {
        was();
        wasNone();
        oddsOfDraws();
        oddsOfSeeds();
        oddsNone();
        spell();
        paper();
        judge();
        judgeStacks();
        change();
        CHECK.done();
    }

    private static void was() {
        ColourStacks x = new ColourStacks();
        Check.sheets(x, "smoked 5 10,10,10,10,10;glass 0 9,8,7,6,5;glass 4 0,0,0,0,0");
        Check.stack(x, "ab");
        Check.stack(x, "aa");
        Check.stack(x, "-");
        Check.tell(x, 0, 15, 15, 23, -1);
        due("25 kinds", x.was(0, 0, 0, 0, 0), 12);
        due("25 figures", x.was(0, 0, 0, 0, 1), 32);
        due("25 kinds of a glass", x.was(1, 0, 0, 0, 0), 1);
        due("25 figures of a glass", x.was(1, 0, 0, 0, 1), 1023);
        due("25 of one that isn't in it", x.was(2, 0, 0, 0, 0), 63);
        due("25 figures of one that isn't in it", x.was(2, 0, 0, 0, 1), 1023);
        due("25 thought alone", x.sheet(0, 0), 2);
        due("25 thought alone, too", x.sheet(0, 1), 5);
        Check.tell(x, 1, 15, 15, 24);
        due("25 none", x.was(2, 0, 0, 1, 0), 0);
        due("25 no figure", x.was(2, 0, 0, 1, 1), 0);
        // at both places: a quarter, not a half
        Check.tell(x, 2, 13, 11, 13);
        due("25 at each place", x.was(0, 1, 0, 2, 0), 12);
        due("25 at each place, figures", x.was(0, 1, 0, 2, 1), 32);
        Check.tell(x, 2, 54, 45, 54);
        due("25 clear ones", x.was(0, 1, 0, 2, 0), 35);
        due("25 no smoked one", x.was(0, 1, 0, 2, 1), 0);
        due("25 of none laid", x.was(0, 2, 0, 2, 0), 63);
        x.power(1, 2, 0);
        Check.tell(x, 2, 45, 18, 54);
        due("25 by a lamp", x.was(0, 2, 1, 2, 0), 63);
        due("25 by another", x.was(0, 2, 0, 2, 0), 0);
        x.becomes(0, 3, 0);
        Check.tell(x, 3, 54, 45, 54);
        due("25 mirror's figure", x.was(0, 1, 0, 3, 1), 1);
        x.becomes(0, 4, 0);
        Check.tell(x, 3, 54, 45, 18);
        due("25 dyed of band 0", x.was(0, 1, 0, 3, 1), 33);
    }

    private static void wasNone() {
        ColourStacks x = new ColourStacks();
        Check.sheets(x, "glass 0 9,8,7,6,5");
        Check.stack(x, "a");
        Check.tell(x, 0, 0, 0, 0);
        Check.tell(x, 1, 0, 0);
        due("25 sheet", x.was(1, 0, 0, 0, 0), Check.NONE);
        due("25 sheet below", x.was(-1, 0, 0, 0, 0), Check.NONE);
        due("25 stack", x.was(0, 1, 0, 0, 0), Check.NONE);
        due("25 stack below", x.was(0, -1, 0, 0, 0), Check.NONE);
        due("25 lamp", x.was(0, 0, 3, 0, 0), Check.NONE);
        due("25 lamp below", x.was(0, 0, -1, 0, 0), Check.NONE);
        due("25 list", x.was(0, 0, 0, 4, 0), Check.NONE);
        due("25 list below", x.was(0, 0, 0, -1, 0), Check.NONE);
        due("25 what", x.was(0, 0, 0, 0, 2), Check.NONE);
        due("25 what below", x.was(0, 0, 0, 0, -1), Check.NONE);
        due("25 none ahead of nothing", x.was(0, 0, 0, 2, 2), Check.NONE);
        due("25 none ahead of beyond", x.was(0, 0, 0, 1, 2), Check.NONE);
        due("25 nothing", x.was(0, 0, 0, 2, 0), Check.NOTHING);
        due("25 beyond", x.was(0, 0, 0, 1, 0), Check.BEYOND);
        x.list(1, 0);
        due("25 beyond of an empty row", x.was(0, 0, 0, 1, 1), Check.BEYOND);
    }

    /** Eight sheets, told apart by what RED sees: 9 times 1 .. 8 by 10, cut: 0 1 2 3 4 5 6 7. */
    private static ColourStacks eightGlasses() {
        ColourStacks x = new ColourStacks();
        for (int i = 1; i <= 8; i++) Check.sheets(x, "glass 0 " + i + "," + i + "," + i + "," + i + "," + i);
        for (int band = 0; band < 5; band++) x.weight(0, band, band == 0 ? 1 : 0);
        return x;
    }

    /** The draws of seed 1 are the well-known 16838, 5758, 10113, 17515. */
    private static void oddsOfDraws() {
        ColourStacks x = eightGlasses();
        due("26 sheet 6", x.odds(1, 1, 1, 0, 0, 6, 0), 1);
        due("26 not sheet 7", x.odds(1, 1, 1, 0, 0, 7, 0), 0);
        due("26 never, below the line", x.odds(1, 1, 1, 0, 0, 7, 1), 1);
        due("26 of seed -1 sheet 1", x.odds(1, -1, 1, 0, 0, 1, 0), 1);
        due("26 of seed -1 not sheet 2", x.odds(1, -1, 1, 0, 0, 2, 0), 0);
        // lamp 0 gives 9, the eye 9 of it: 81 times 0.7 0.7 0.2 0.4 is 39.69, 7.938, 3.1752
        x.weight(0, 0, 9);
        int[] shades = {81, 56, 39, 7, 3};
        for (int k = 0; k < 5; k++) {
            due("26 draws " + k, x.odds(k, 1, 1, 0, 0, shades[k], 0), 1);
            due("26 draws above " + k, x.odds(k, 1, 1, 0, 0, shades[k] + 1, 0), 0);
        }
        due("26 draws nothing that is laid", x.count(4), 0);
        x.power(1, 0, 1);
        due("26 by a weak lamp", x.odds(0, 1, 1, 1, 0, 9, 0), 1);
        due("26 by a weak lamp not more", x.odds(0, 1, 1, 1, 0, 10, 0), 0);
        due("26 by another eye", x.odds(0, 1, 1, 0, 1, 45, 0), 1);
        due("26 by another eye not more", x.odds(0, 1, 1, 0, 1, 46, 0), 0);
    }

    private static int drawn(int seed) {
        return (seed * 1103515245 + 12345 & 0x7fffffff) / 65536 % 8;
    }

    private static void oddsOfSeeds() {
        ColourStacks x = eightGlasses();
        int[] seeds = {0, 7, -30, Integer.MAX_VALUE, Integer.MAX_VALUE - 9, Integer.MIN_VALUE};
        for (int seed : seeds) {
            for (int m = 1; m <= 20; m++) {
                int good = 0;
                for (int i = 0; i < m; i++) if (drawn(seed + i) >= 4) good++;
                int common = 1;
                for (int d = 1; d <= m; d++) if (m % d == 0 && good % d == 0) common = d;
                due("26 seed " + seed + " m " + m, x.odds(1, seed, m, 0, 0, 4, 0), good / common);
                due("26 below, seed " + seed + " m " + m, x.odds(1, seed, m, 0, 0, 4, 1), m / common);
            }
        }
        due("26 behind the greatest the least", x.odds(1, Integer.MAX_VALUE, 2, 0, 0, 1, 1), 2);
        due("26 v below 0", x.odds(2, 5, 20, 0, 0, Integer.MIN_VALUE, 0), 1);
        due("26 v far above", x.odds(2, 5, 20, 0, 0, Integer.MAX_VALUE, 0), 0);
    }

    private static void oddsNone() {
        ColourStacks x = new ColourStacks();
        due("26 no sheets", x.odds(1, 1, 1, 0, 0, 0, 0), Check.NO);
        due("26 no sheets, none drawn", x.odds(0, 1, 1, 0, 0, 0, 0), Check.NO);
        Check.sheets(x, "glass 0 9,8,7,6,5");
        due("26 none drawn", x.odds(0, 1, 1, 0, 0, 54, 0), 1);
        due("26 four", x.odds(4, 1, 20, 2, 2, 0, 0), 1);
        due("26 k", x.odds(5, 1, 1, 0, 0, 0, 0), Check.NO);
        due("26 k below", x.odds(-1, 1, 1, 0, 0, 0, 0), Check.NO);
        due("26 m", x.odds(1, 1, 21, 0, 0, 0, 0), Check.NO);
        due("26 m below", x.odds(1, 1, 0, 0, 0, 0, 0), Check.NO);
        due("26 lamp", x.odds(1, 1, 1, 3, 0, 0, 0), Check.NO);
        due("26 lamp below", x.odds(1, 1, 1, -1, 0, 0, 0), Check.NO);
        due("26 eye", x.odds(1, 1, 1, 0, 3, 0, 0), Check.NO);
        due("26 eye below", x.odds(1, 1, 1, 0, -1, 0, 0), Check.NO);
        due("26 part", x.odds(1, 1, 1, 0, 0, 0, 2), Check.NO);
        due("26 part below", x.odds(1, 1, 1, 0, 0, 0, -1), Check.NO);
    }

    private static void spelled(ColourStacks x, int stack, String want) {
        due("27 length of " + want, x.spell(stack), want.length());
        String paper = Check.paper(x);
        due("27 '" + want + "' against '" + paper + "'", paper.equals(want) ? 1 : 0, 1);
        due("36 paper of " + want, x.count(3), want.length());
    }

    private static void spell() {
        ColourStacks x = new ColourStacks();
        Check.sheets(x, "glass 0 0,0,0,0,0;thick 1 0,0,0,0,0;smoked 2 0,0,0,0,0");
        Check.sheets(x, "mirror 3 0,0,0,0,0;dyed 4 0,0,0,0,0;clear 9 0,0,0,0,0");
        Check.stack(x, "abcdef");
        Check.stack(x, "cdcdcd");
        Check.stack(x, "f");
        Check.stack(x, "-");
        spelled(x, 0, "glass0/thick1/smoked2/mirror3/dyed4/clear9");
        spelled(x, 1, "smoked2/mirror3/smoked2/mirror3/smoked2/mirror3");
        spelled(x, 2, "clear9");
        spelled(x, 3, "-");
        x.becomes(5, 1, 7);
        spelled(x, 2, "thick7");
        due("27 stack", x.spell(4), Check.NONE);
        due("27 stack below", x.spell(-1), Check.NONE);
        due("27 the paper stays", Check.paper(x).equals("thick7") ? 1 : 0, 1);
        x.becomes(5, 2, 8);
        due("27 the paper isn't written again", x.paper(0), 't');
    }

    private static void paper() {
        ColourStacks x = new ColourStacks();
        due("28 nothing", x.paper(0), Check.NONE);
        Check.sheets(x, "dyed 4 0,0,0,0,0");
        Check.stack(x, "a");
        x.spell(0);
        due("28 first", x.paper(0), 'd');
        due("28 last", x.paper(4), '4');
        due("28 beyond", x.paper(5), Check.NONE);
        due("28 below", x.paper(-1), Check.NONE);
        due("28 far", x.paper(Integer.MIN_VALUE), Check.NONE);
        x.take(0);
        x.spell(0);
        due("28 a shorter one", x.paper(0), '-');
        due("28 behind a shorter one", x.paper(1), Check.NONE);
    }

    private static void judge() {
        ColourStacks x = new ColourStacks();
        Check.tell(x, 0, 0, 0, 0);
        due("29 no stack", x.judge(0, 0), 0);
        Check.stack(x, "-");
        due("29 otherwise", x.judge(0, 0), 0);
        Check.tell(x, 0, 54, 45, 54, 54, 45, 54);
        due("29 no second stack", x.judge(0, 0), 3);
        Check.tell(x, 0, 54, 45, 54);
        due("29 as told", x.judge(0, 0), Check.NOT);
        Check.tell(x, 0, 54, 45, 53);
        due("29 blue", x.judge(0, 0), 2);
        Check.tell(x, 0, 54, -45, 53);
        due("29 the first", x.judge(0, 0), 1);
        Check.tell(x, 0, 54, 45);
        due("29 two numbers", x.judge(0, 0), Check.NOT);
        Check.tell(x, 0, 54, 44);
        due("29 two numbers, otherwise", x.judge(0, 0), 1);
        x.list(0, 0);
        due("29 an empty row", x.judge(0, 2), Check.NOT);
        due("29 list", x.judge(4, 0), Check.NONE);
        due("29 list below", x.judge(-1, 0), Check.NONE);
        due("29 lamp", x.judge(0, 3), Check.NONE);
        due("29 lamp below", x.judge(0, -1), Check.NONE);
        due("29 none ahead of nothing", x.judge(1, 3), Check.NONE);
        due("29 nothing", x.judge(1, 0), Check.NOTHING);
    }

    private static void judgeStacks() {
        ColourStacks x = new ColourStacks();
        Check.sheets(x, "glass 0 5,5,5,5,5");
        for (int i = 0; i < 5; i++) Check.stack(x, i % 2 == 0 ? "-" : "a");
        Check.tell(x, 3, 54, 45, 54, 27, 22, 27, 54, 45, 54, 27, 22, 27, 54, 45, 54, 0, 0, 0);
        due("29 no sixth", x.judge(3, 0), 15);
        Check.stack(x, "a");
        due("29 sixth otherwise", x.judge(3, 0), 15);
        Check.tell(x, 3, 54, 45, 54, 27, 22, 27, 54, 45, 54, 27, 22, 27, 54, 45, 54, 27, 22, 27);
        due("29 all six", x.judge(3, 0), Check.NOT);
        x.put(3, 10, 23);
        due("29 green of the fourth", x.judge(3, 0), 10);
        x.power(2, 4, 0);
        due("29 by another lamp", x.judge(3, 2), 0);
    }

    private static void change() {
        ColourStacks x = new ColourStacks();
        Check.sheets(x, "glass 0 1,2,3,4,5;glass 0 6,7,8,9,10");
        Check.tell(x, 0, 0, 4, 10, 1, 0, 0, 2, 0, 3, 1, 5, 3, 1, 1, 11, 0, 4, 9);
        due("30 done", x.change(0), 3);
        due("30 the later one", x.sheet(0, 14), 9);
        due("30 second sheet", x.sheet(1, 10), 0);
        due("30 refused", x.sheet(1, 11), 7);
        Check.tell(x, 1, 1, 2, 5, 1, 3);
        due("30 one whole row", x.change(1), 1);
        due("30 it is done", x.sheet(1, 12), 5);
        due("30 no half of a row", x.sheet(1, 13), 9);
        due("30 as it was counts, too", x.change(1), 1);
        Check.tell(x, 2, 1, 0, 1);
        due("30 what was 0 counts, too", x.change(2), 1);
        Check.tell(x, 1, 0, 0);
        due("30 no row", x.change(1), 0);
        x.list(1, 0);
        due("30 an empty row", x.change(1), 0);
        Check.tell(x, 1, -1, 0, 1, 0, -1, 1, 0, 0, -1);
        due("30 all refused", x.change(1), 0);
        due("30 nothing changed", x.sheet(0, 10), 1);
        due("30 list", x.change(4), Check.NONE);
        due("30 list below", x.change(-1), Check.NONE);
        due("30 nothing", x.change(3), Check.NOTHING);
    }
}
