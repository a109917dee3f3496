/** Promises 19 to 24: the wish, fewest, nearest, without, dark, fades. */
public final class WishesTest {
    private static final Check CHECK = new Check("WishesTest");

    private static void due(String call, long got, long want) {
        CHECK.due(call, got, want);
    }

    public static void main(String[] args) {
        wish();
        fewestOfNone();
        fewest();
        fewestOrder();
        fewestByLamp();
        nearestOfNone();
        nearest();
        nearestOrder();
        without();
        dark();
        fades();
        CHECK.done();
    }

    private static void wish() {
        ColourStacks x = new ColourStacks();
        due("19 first", x.wish(1, 2, 3), 1);
        due("19 most", x.wish(9999, 0, 9999), 1);
        int[][] bad = {{10000, 0, 0}, {0, 10000, 0}, {0, 0, 10000}, {-1, 0, 0}, {0, -1, 0}, {0, 0, -1}};
        for (int[] b : bad) due("19 bad", x.wish(b[0], b[1], b[2]), Check.BAD);
        due("19 red", x.count(5), 9999);
        due("19 green", x.count(6), 0);
        due("19 blue", x.count(7), 9999);
    }

    private static void fewestOfNone() {
        ColourStacks x = new ColourStacks();
        due("20 none", x.fewest(0, 0), Check.NOT);
        due("20 none at all", x.fewest(0, 1), Check.NOT);
        due("20 no sheet", x.fewest(0, 13), Check.NOT);
        x.wish(54, 45, 54);
        due("20 none will do", x.fewest(0, 0), 0);
        due("20 one stack", x.fewest(0, 1), 1);
        due("20 beyond its last", x.fewest(0, 10), Check.NOT);
        due("20 lamp", x.fewest(3, 0), Check.NONE);
        due("20 lamp below", x.fewest(-1, 0), Check.NONE);
        for (int what : new int[] {-1, 2, 9, 14}) due("20 what " + what, x.fewest(0, what), Check.NONE);
    }

    private static void told(String call, ColourStacks x, int... want) {
        due(call + " sheets", x.fewest(0, 0), want.length - 1);
        due(call + " stacks", x.fewest(0, 1), want[0]);
        for (int k = 0; k < 4; k++) {
            due(call + " sheet " + k, x.fewest(0, 10 + k), k + 1 < want.length ? want[k + 1] : Check.NOT);
        }
    }

    private static void fewest() {
        ColourStacks x = new ColourStacks();
        Check.sheets(x, "glass 0 5,5,5,5,5;smoked 5 10,10,10,10,10");
        x.wish(54, 45, 54);
        told("20 of 0", x, 1);
        x.wish(27, 22, 27);
        told("20 of 1", x, 2, 0);
        x.wish(13, 11, 13);
        told("20 of 2", x, 3, 0, 0);
        x.wish(6, 5, 6);
        told("20 of 3", x, 4, 0, 0, 0);
        x.wish(3, 2, 3);
        told("20 of 4", x, 5, 0, 0, 0, 0);
        x.wish(1, 1, 1);
        due("20 of 5", x.fewest(0, 0), Check.NOT);
        due("20 changes nothing", x.count(1), 0);
    }

    private static void fewestOrder() {
        ColourStacks x = new ColourStacks();
        Check.sheets(x, "glass 0 8,8,8,8,8;glass 0 4,4,4,4,4;glass 0 2,2,2,2,2");
        x.wish(8, 7, 8);
        told("20 first by numbers", x, 2, 0, 2);
        x.number(2, 0, 1);
        told("20 what is left", x, 1, 1, 1);
        Check.sheets(x, "glass 0 8,8,8,8,8;glass 0 2,2,2,2,2");
        told("20 rising numbers", x, 3, 0, 4);
    }

    private static void fewestByLamp() {
        ColourStacks x = new ColourStacks();
        for (int band = 0; band < 5; band++) x.power(2, band, 1);
        x.wish(6, 5, 6);
        due("20 by lamp 2", x.fewest(2, 0), 0);
        due("20 by lamp 0", x.fewest(0, 0), Check.NOT);
        due("21 by lamp 2", x.nearest(2, 1), 0);
        due("21 by lamp 0", x.nearest(0, 1), 136);
    }

    private static void nearestOfNone() {
        ColourStacks x = new ColourStacks();
        due("21 none", x.nearest(0, 0), 0);
        due("21 by how much", x.nearest(0, 1), 153);
        due("21 beyond its last", x.nearest(0, 10), Check.NOT);
        x.wish(100, 40, 54);
        due("21 each difference", x.nearest(0, 1), 51);
        due("21 lamp", x.nearest(3, 0), Check.NONE);
        due("21 lamp below", x.nearest(-1, 0), Check.NONE);
        for (int what : new int[] {-1, 2, 9, 13}) due("21 what " + what, x.nearest(0, what), Check.NONE);
    }

    private static void near(String call, ColourStacks x, int... want) {
        due(call + " sheets", x.nearest(0, 0), want.length - 1);
        due(call + " by how much", x.nearest(0, 1), want[0]);
        for (int k = 0; k < 3; k++) {
            due(call + " sheet " + k, x.nearest(0, 10 + k), k + 1 < want.length ? want[k + 1] : Check.NOT);
        }
    }

    private static void nearest() {
        ColourStacks x = new ColourStacks();
        Check.sheets(x, "glass 0 5,5,5,5,5;smoked 5 10,10,10,10,10");
        x.wish(54, 45, 54);
        near("21 of 0", x, 0);
        x.wish(27, 22, 27);
        near("21 of 1", x, 0, 0);
        x.wish(26, 23, 29);
        near("21 of 1 about", x, 4, 0);
        x.wish(6, 5, 6);
        near("21 of 3", x, 0, 0, 0, 0);
        x.wish(3, 2, 3);
        near("21 never of 4", x, 9, 0, 0, 0);
        x.wish(0, 0, 0);
        near("21 the darkest", x, 17, 0, 0, 0);
    }

    private static void nearestOrder() {
        ColourStacks x = new ColourStacks();
        Check.sheets(x, "glass 0 10,10,10,10,10;glass 0 8,8,8,8,8;glass 0 4,4,4,4,4;glass 0 2,2,2,2,2");
        x.wish(8, 7, 8);
        near("21 first by numbers", x, 0, 1, 3);
        x.wish(54, 45, 54);
        near("21 fewest of like ones", x, 0);
        Check.sheets(x, "glass 0 0,0,0,0,0;glass 0 0,0,0,0,0");
        x.wish(0, 0, 0);
        near("21 one of like ones", x, 0, 4);
    }

    private static void without() {
        ColourStacks x = new ColourStacks();
        Check.sheets(x, "glass 0 10,9,8,5,0;thick 1 10,5,5,5,10;glass 0 10,10,10,10,10");
        for (String stack : new String[] {"ab", "ba", "bcb", "c", "-"}) Check.stack(x, stack);
        due("22 place", x.without(0, 0, 0), 1);
        due("22 by how much", x.without(0, 0, 1), 50);
        due("22 the other order", x.without(1, 0, 0), 0);
        due("22 as much", x.without(1, 0, 1), 50);
        due("22 first of like ones", x.without(2, 0, 0), 0);
        due("22 no difference", x.without(3, 0, 1), 0);
        due("22 no difference's place", x.without(3, 0, 0), 0);
        due("22 empty", x.without(4, 0, 0), Check.STATE);
        due("22 empty, by how much", x.without(4, 0, 1), Check.STATE);
        due("22 stack", x.without(5, 0, 0), Check.NONE);
        due("22 stack below", x.without(-1, 0, 0), Check.NONE);
        due("22 lamp", x.without(0, 3, 0), Check.NONE);
        due("22 lamp below", x.without(0, -1, 0), Check.NONE);
        due("22 what", x.without(0, 0, 2), Check.NONE);
        due("22 what below", x.without(0, 0, -1), Check.NONE);
        due("22 none ahead of state", x.without(4, 0, 2), Check.NONE);
        x.power(1, 0, 0);
        x.power(1, 1, 0);
        due("22 by another lamp", x.without(0, 1, 1), 32);
        due("22 first of two places with 32", x.without(0, 1, 0), 0);
    }

    private static void dark() {
        ColourStacks x = new ColourStacks();
        Check.sheets(x, "glass 0 6,6,6,6,6;glass 0 7,7,7,7,7;glass 0 0,0,0,0,0;glass 0 5,5,5,5,5");
        for (String stack : new String[] {"-", "a", "aaaaaa", "dddddd", "ac"}) Check.stack(x, stack);
        due("23 eight", x.dark(0, 0, 0), 8);
        due("23 seven more", x.dark(1, 0, 0), 7);
        due("23 two more", x.dark(2, 0, 0), 2);
        due("23 not with eight", x.dark(0, 0, 1), Check.NOT);
        due("23 not with eight of both", x.dark(2, 0, 1), Check.NOT);
        due("23 one", x.dark(2, 0, 2), 1);
        due("23 already", x.dark(3, 0, 1), 0);
        due("23 already, too", x.dark(4, 0, 0), 0);
        due("23 stack", x.dark(5, 0, 0), Check.NONE);
        due("23 stack below", x.dark(-1, 0, 0), Check.NONE);
        due("23 lamp", x.dark(0, 3, 0), Check.NONE);
        due("23 lamp below", x.dark(0, -1, 0), Check.NONE);
        due("23 sheet", x.dark(0, 0, 4), Check.NONE);
        due("23 sheet below", x.dark(0, 0, -1), Check.NONE);
        due("23 in thought", x.count(4), 15);
        for (int band = 0; band < 5; band++) x.power(1, band, 1);
        due("23 by a weak lamp", x.dark(0, 1, 3), 3);
    }

    private static void fades() {
        ColourStacks x = new ColourStacks();
        Check.sheets(x, "glass 0 5,5,5,5,5;glass 0 1,1,1,1,1");
        for (String stack : new String[] {"-", "a", "b"}) Check.stack(x, stack);
        due("24 at once", x.fades(0, 0), 1);
        for (int band = 0; band < 5; band++) {
            x.weight(0, band, 0);
            x.weight(1, band, 0);
            x.weight(2, band, band == 0 ? 1 : 0);
        }
        due("24 nine", x.fades(0, 0), 1);
        due("24 four and a half", x.fades(1, 0), 2);
        due("24 below one", x.fades(2, 0), Check.NOT);
        x.weight(2, 0, 0);
        x.weight(1, 1, 2);
        x.power(1, 1, 1);
        due("24 green's band 1", x.fades(1, 1), 1);
        x.weight(0, 4, 9);
        x.weight(1, 1, 0);
        due("24 no fading band", x.fades(0, 0), Check.NOT);
        // red: 1 of a fading band and 9 of another; a tenth less of the first is below 10
        x.weight(0, 4, 1);
        x.weight(0, 0, 1);
        x.power(2, 0, 1);
        x.number(0, 0, 10);
        x.number(0, 4, 10);
        due("24 a tenth off", x.fades(1, 2), 1);
        // 0.09 and 0.9 together are below 1 already
        x.power(2, 4, 1);
        x.becomes(1, 2, 9);
        x.number(1, 0, 1);
        x.number(1, 4, 10);
        due("24 0.09 and 0.9", x.fades(2, 2), Check.NOT);
        // 0.81 and 3 together stay 3 by the oldest lamp, too
        x.power(2, 0, 9);
        x.power(2, 4, 3);
        x.becomes(1, 1, 0);
        x.number(1, 0, 3);
        due("24 never below 3", x.fades(2, 2), Check.NOT);
        // 0.81 and 2.43 together are 3.24, and with three tenths of 0.81 less 2.997
        x.number(1, 4, 9);
        due("24 three tenths off", x.fades(2, 2), 3);
        // 0.4 and 0.96: 1.36, 1 exactly nine tenths off, 0.96 ten tenths off
        x.power(2, 0, 1);
        x.becomes(1, 2, 4);
        x.number(1, 0, 10);
        x.number(1, 4, 8);
        due("24 all tenths off", x.fades(2, 2), 10);
        due("24 stack", x.fades(3, 0), Check.NONE);
        due("24 stack below", x.fades(-1, 0), Check.NONE);
        due("24 lamp", x.fades(0, 3), Check.NONE);
        due("24 lamp below", x.fades(0, -1), Check.NONE);
    }
}
