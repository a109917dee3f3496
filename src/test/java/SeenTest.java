/** Promises 13 to 18: what comes through, what is seen, alike, false pairs, ranked. */
public final class SeenTest {
    private static final Check CHECK = new Check("SeenTest");

    private static void due(String call, long got, long want) {
        CHECK.due(call, got, want);
    }

    public static void main(String[] args) {
        through();
        sees();
        shade();
        alike();
        alikeExactly();
        falsePairs();
        falsePairByOneLamp();
        ranked();
        highest();
        CHECK.done();
    }

    private static ColourStacks twoSheets() {
        ColourStacks x = new ColourStacks();
        Check.sheets(x, "glass 0 10,9,8,5,0;thick 1 10,5,5,5,10");
        Check.stack(x, "ab");
        Check.stack(x, "-");
        return x;
    }

    private static void through() {
        ColourStacks x = twoSheets();
        int[] above = {1, 9, 1, 1, 0};
        int[] below = {1, 40, 5, 8, 1};
        for (int band = 0; band < 5; band++) {
            due("13 above " + band, x.through(0, band, 0), above[band]);
            due("13 below " + band, x.through(0, band, 1), below[band]);
            due("13 all above " + band, x.through(1, band, 0), 1);
            due("13 all below " + band, x.through(1, band, 1), 1);
        }
        due("13 stack", x.through(2, 0, 0), Check.NO);
        due("13 stack below", x.through(-1, 0, 0), Check.NO);
        due("13 band", x.through(0, 5, 0), Check.NO);
        due("13 band below", x.through(0, -1, 0), Check.NO);
        due("13 part", x.through(0, 0, 2), Check.NO);
        due("13 part below", x.through(0, 0, -1), Check.NO);
    }

    private static void fraction(String call, ColourStacks x, int n, int eye, long above, long below) {
        due(call + " above", x.sees(0, 0, n, eye, 0), above);
        due(call + " below", x.sees(0, 0, n, eye, 1), below);
    }

    private static void sees() {
        ColourStacks x = twoSheets();
        fraction("14 red", x, 0, 0, 81, 20);
        fraction("14 green", x, 0, 1, 171, 20);
        fraction("14 blue", x, 0, 2, 801, 20);
        fraction("14 red aged", x, 10, 0, 81, 20);
        fraction("14 green aged", x, 5, 1, 603, 80);
        fraction("14 blue aged", x, 5, 2, 801, 40);
        fraction("14 green old", x, 10, 1, 261, 40);
        fraction("14 blue old", x, 10, 2, 0, 1);
        due("14 empty above", x.sees(1, 2, 0, 0, 0), 54);
        due("14 empty below", x.sees(1, 2, 0, 0, 1), 1);
        x.power(1, 2, 4);
        due("14 other power above", x.sees(0, 1, 0, 0, 0), 61);
        due("14 other power below", x.sees(0, 1, 0, 0, 1), 20);
        x.weight(0, 2, 0);
        fraction("14 other weight", x, 0, 0, 9, 4);
        due("14 stack", x.sees(2, 0, 0, 0, 0), Check.NO);
        due("14 stack below", x.sees(-1, 0, 0, 0, 0), Check.NO);
        due("14 lamp", x.sees(0, 3, 0, 0, 0), Check.NO);
        due("14 lamp below", x.sees(0, -1, 0, 0, 0), Check.NO);
        due("14 n", x.sees(0, 0, 11, 0, 0), Check.NO);
        due("14 n below", x.sees(0, 0, -1, 0, 0), Check.NO);
        due("14 eye", x.sees(0, 0, 0, 3, 0), Check.NO);
        due("14 eye below", x.sees(0, 0, 0, -1, 0), Check.NO);
        due("14 part", x.sees(0, 0, 0, 0, 2), Check.NO);
        due("14 part below", x.sees(0, 0, 0, 0, -1), Check.NO);
    }

    private static void shade() {
        ColourStacks x = twoSheets();
        int[] fresh = {4, 8, 40};
        int[] aged = {4, 7, 20};
        int[] old = {4, 6, 0};
        for (int eye = 0; eye < 3; eye++) {
            due("15 fresh " + eye, x.shade(0, 0, 0, eye), fresh[eye]);
            due("15 aged " + eye, x.shade(0, 0, 5, eye), aged[eye]);
            due("15 old " + eye, x.shade(0, 0, 10, eye), old[eye]);
        }
        due("15 empty", x.shade(1, 0, 0, 1), 45);
        due("15 stack", x.shade(2, 0, 0, 0), Check.NONE);
        due("15 stack below", x.shade(-1, 0, 0, 0), Check.NONE);
        due("15 lamp", x.shade(0, 3, 0, 0), Check.NONE);
        due("15 lamp below", x.shade(0, -1, 0, 0), Check.NONE);
        due("15 n", x.shade(0, 0, 11, 0), Check.NONE);
        due("15 n below", x.shade(0, 0, -1, 0), Check.NONE);
        due("15 eye", x.shade(0, 0, 0, 3), Check.NONE);
        due("15 eye below", x.shade(0, 0, 0, -1), Check.NONE);
    }

    private static void alike() {
        ColourStacks x = new ColourStacks();
        Check.sheets(x, "glass 0 5,5,5,5,5;smoked 5 10,10,10,10,10;thick 0 5,5,5,5,5;glass 0 5,5,5,5,4");
        String[] stacks = {"a", "b", "ab", "c", "d", "-"};
        for (String stack : stacks) Check.stack(x, stack);
        due("16 same through", x.alike(0, 1, 0), 1);
        due("16 other heights", x.alike(2, 3, 0), 1);
        due("16 other order", x.alike(3, 2, 2), 1);
        due("16 itself", x.alike(4, 4, 1), 1);
        due("16 a band less", x.alike(0, 4, 0), 0);
        due("16 none on it", x.alike(0, 5, 0), 0);
        x.power(1, 4, 0);
        due("16 by a lamp without that band", x.alike(0, 4, 1), 1);
        due("16 by another still not", x.alike(0, 4, 2), 0);
        due("16 one", x.alike(6, 0, 0), Check.NONE);
        due("16 one below", x.alike(-1, 0, 0), Check.NONE);
        due("16 other", x.alike(0, 6, 0), Check.NONE);
        due("16 other below", x.alike(0, -1, 0), Check.NONE);
        due("16 lamp", x.alike(0, 0, 3), Check.NONE);
        due("16 lamp below", x.alike(0, 0, -1), Check.NONE);
    }

    private static void alikeExactly() {
        ColourStacks x = new ColourStacks();
        Check.sheets(x, "glass 0 0,0,0,0,1;glass 0 0,0,0,0,2");
        Check.stack(x, "a");
        Check.stack(x, "b");
        x.power(0, 4, 1);
        for (int eye = 0; eye < 3; eye++) due("16 same shades", x.shade(0, 0, 0, eye), x.shade(1, 0, 0, eye));
        due("16 same shades aren't enough", x.alike(0, 1, 0), 0);
        x.weight(0, 4, 0);
        due("16 no eye for it", x.alike(0, 1, 0), 1);
        x.weight(2, 4, 1);
        due("16 one eye is enough", x.alike(0, 1, 0), 0);
    }

    private static void falsePairs() {
        ColourStacks x = new ColourStacks();
        due("17 no stacks", x.falsePairs(0, 0), 0);
        due("17 no first", x.falsePairs(2, 1), Check.NOT);
        Check.sheets(x, "glass 0 1,1,1,1,1;glass 0 9,9,9,9,9;glass 0 0,0,9,9,9;glass 0 9,9,9,9,9");
        for (String stack : new String[] {"a", "b", "c", "d"}) Check.stack(x, stack);
        due("17 none by full lamps", x.falsePairs(1, 0), 0);
        x.power(1, 0, 0);
        x.power(1, 1, 0);
        due("17 two", x.falsePairs(1, 0), 2);
        due("17 first", x.falsePairs(1, 1), 12);
        due("17 by another none", x.falsePairs(0, 0), 0);
        due("17 by another no first", x.falsePairs(0, 1), Check.NOT);
        for (int lamp = 0; lamp < 3; lamp += 2) {
            x.power(lamp, 0, 0);
            due("17 while a lamp tells", x.falsePairs(1, 0), 2);
            x.power(lamp, 1, 0);
        }
        due("17 alike by each lamp", x.falsePairs(1, 0), 0);
        due("17 lamp", x.falsePairs(3, 0), Check.NONE);
        due("17 lamp below", x.falsePairs(-1, 0), Check.NONE);
        due("17 what", x.falsePairs(0, 2), Check.NONE);
        due("17 what below", x.falsePairs(0, -1), Check.NONE);
    }

    /** By one lamp alone two stacks look otherwise; by each of the others they are a false pair. */
    private static void falsePairByOneLamp() {
        for (int telling = 0; telling < 3; telling++) {
            ColourStacks x = new ColourStacks();
            Check.sheets(x, "glass 0 3,9,9,9,9;glass 0 0,9,9,9,9");
            Check.stack(x, "a");
            Check.stack(x, "b");
            for (int lamp = 0; lamp < 3; lamp++) if (lamp != telling) x.power(lamp, 0, 0);
            for (int lamp = 0; lamp < 3; lamp++) {
                due("17 lamp " + telling + " tells, by " + lamp, x.falsePairs(lamp, 0), lamp == telling ? 0 : 1);
                due("17 first, lamp " + telling + " tells, by " + lamp, x.falsePairs(lamp, 1), lamp == telling ? -5 : 1);
            }
        }
    }

    private static void ranked() {
        ColourStacks x = new ColourStacks();
        due("18 no stacks", x.ranked(0, 0), Check.NONE);
        Check.sheets(x, "glass 0 2,2,2,2,2;glass 0 9,9,9,9,9;glass 0 10,10,9,9,9");
        for (String stack : new String[] {"a", "b", "-", "c", "b"}) Check.stack(x, stack);
        int[] order = {2, 3, 1, 4, 0};
        for (int place = 0; place < 5; place++) due("18 place " + place, x.ranked(0, place), order[place]);
        x.power(2, 0, 0);
        x.power(2, 1, 0);
        int[] other = {2, 1, 3, 4, 0};
        for (int place = 0; place < 5; place++) due("18 by another, place " + place, x.ranked(2, place), other[place]);
        due("18 beyond", x.ranked(0, 5), Check.NONE);
        due("18 below", x.ranked(0, -1), Check.NONE);
        due("18 lamp", x.ranked(3, 0), Check.NONE);
        due("18 lamp below", x.ranked(-1, 0), Check.NONE);
    }

    /** The largest numbers that a fraction can have. */
    private static void highest() {
        ColourStacks x = new ColourStacks();
        Check.sheets(x, "mirror 1 1,1,1,1,1;clear 0 10,0,0,0,0");
        Check.stack(x, "aaaaaa");
        Check.stack(x, "bbbbbb");
        for (int eye = 0; eye < 3; eye++) for (int band = 0; band < 5; band++) x.weight(eye, band, 9);
        due("13 99 above", x.through(0, 0, 0), 941480149401L);
        due("13 99 below", x.through(0, 0, 1), 1000000000000L);
        due("14 99 above", x.sees(0, 0, 1, 0, 0), 941480149401L * 243);
        due("14 99 below", x.sees(0, 0, 1, 0, 1), 625000000000L);
        due("15 all", x.shade(1, 0, 0, 0), 405);
        due("15 all by an old lamp", x.shade(1, 0, 10, 0), 243);
        due("18 brightest", x.ranked(0, 0), 1);
        due("23 never dark", x.dark(1, 0, 1), Check.NOT);
    }
}
