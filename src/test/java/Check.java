import java.util.function.IntToLongFunction;

/** Counts what is as due and prints what is not; every test program here ends by done(). */
final class Check {
    static final int NONE = -1, BAD = -2, STATE = -3, FULL = -4, NOT = -5;
    static final int NOTHING = -11, BEYOND = -13, BELOW = -14;
    static final long NO = Long.MIN_VALUE;

    private final String name;
    private int right = 0;
    private int wrong = 0;

    Check(String name) {
        this.name = name;
    }

    void due(String call, long got, long want) {
        if (got == want) {
            right++;
            return;
        }
        wrong++;
        if (wrong <= 50) System.out.println(name + ": " + call + " answered " + got + ", due is " + want);
    }

    void holds(String call, boolean it) {
        due(call, it ? 1 : 0, 1);
    }

    /** The call asked with numbers that are none of 0 .. count - 1: the nearest and the farthest ones. */
    void refused(String call, int count, long want, IntToLongFunction asked) {
        for (int i : new int[] {-1, count, Integer.MIN_VALUE, Integer.MAX_VALUE}) {
            due(call + " " + i, asked.applyAsLong(i), want);
        }
    }

    void done() {
        System.out.println(name + ": " + right + " answers as due, " + wrong + " not");
        if (wrong != 0) System.exit(1);
    }

    static void feedAll(ColourStacks x, String text) {
        for (int i = 0; i < text.length(); i++) x.feed(text.charAt(i));
    }

    static int sheets(ColourStacks x, String text) {
        feedAll(x, text);
        return x.sheets();
    }

    static int stack(ColourStacks x, String text) {
        feedAll(x, text);
        return x.stack();
    }

    /** Lays nothing on anything: so many new stacks without sheets. */
    static void emptyStacks(ColourStacks x, int count) {
        for (int i = 0; i < count; i++) stack(x, "-");
    }

    /** A clause of a sheet that has the same number of each band. */
    static String even(String word, int figure, int v) {
        return word + " " + figure + " " + v + "," + v + "," + v + "," + v + "," + v;
    }

    /** So many sheets that let all light through. */
    static void clearSheets(ColourStacks x, int count) {
        for (int i = 0; i < count; i++) sheets(x, even("glass", 0, 10));
    }

    static void powers(ColourStacks x, int lamp, int... powers) {
        for (int band = 0; band < 5; band++) x.power(lamp, band, powers[band]);
    }

    /** Lamp 0 gives 9 of each band, lamp 1 gives 3, lamp 2 gives 1. */
    static void ownPowers(ColourStacks x) {
        powers(x, 1, 3, 3, 3, 3, 3);
        powers(x, 2, 1, 1, 1, 1, 1);
    }

    static void weights(ColourStacks x, int eye, int... weights) {
        for (int band = 0; band < 5; band++) x.weight(eye, band, weights[band]);
    }

    /** RED looks at band 0 alone, by ones; GREEN and BLUE at none: RED's shade is 9 times what comes, cut. */
    static void onlyRed(ColourStacks x) {
        weights(x, 0, 1, 0, 0, 0, 0);
        weights(x, 1, 0, 0, 0, 0, 0);
        weights(x, 2, 0, 0, 0, 0, 0);
    }

    static String paper(ColourStacks x) {
        StringBuilder read = new StringBuilder();
        for (int i = 0, it = x.paper(0); it >= 0; i++, it = x.paper(i)) read.append((char) it);
        return read.toString();
    }

    static void tell(ColourStacks x, int list, int... values) {
        x.list(list, values.length);
        for (int i = 0; i < values.length; i++) x.put(list, i, values[i]);
    }
}
