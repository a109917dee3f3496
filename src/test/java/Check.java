/** Counts what is as due and prints what is not; every test program here ends by done(). */
final class Check {
    static final int NONE = -1, BAD = -2, STATE = -3, FULL = -4, NOT = -5;
    static final int NOTHING = -11, BEYOND = -13, BELOW = -14;
    static final long NO = Long.MIN_VALUE;

    private final String name;
    private int right = 0;
    private int wrong = 0;

    Check(String name) {
        this.name = name;
    }

    void due(String call, long got, long want) {
        if (got == want) {
            right++;
            return;
        }
        wrong++;
        if (wrong <= 50) System.out.println(name + ": " + call + " answered " + got + ", due is " + want);
    }

    void done() {
        System.out.println(name + ": " + right + " answers as due, " + wrong + " not");
        if (wrong != 0) System.exit(1);
    }

    static void feedAll(ColourStacks x, String text) {
        for (int i = 0; i < text.length(); i++) x.feed(text.charAt(i));
    }

    static int sheets(ColourStacks x, String text) {
        feedAll(x, text);
        return x.sheets();
    }

    static int stack(ColourStacks x, String text) {
        feedAll(x, text);
        return x.stack();
    }

    static String paper(ColourStacks x) {
        StringBuilder read = new StringBuilder();
        for (int i = 0; x.paper(i) >= 0; i++) read.append((char) x.paper(i));
        return read.toString();
    }

    static void tell(ColourStacks x, int list, int... values) {
        x.list(list, values.length);
        for (int i = 0; i < values.length; i++) x.put(list, i, values[i]);
    }
}
