/**
 * Runs against the model, aimed at what ModelTest meets seldom: false pairs, equal brightness, lamps by which
 * a stack fades late, piles of seven and eight sheets that aren't dark, wishes that many stacks come up to.
 * Few different numbers, powers and weights make these likely.
 */
public final class AimedModelTest {
    /** The document promises an object's first 512 calls; no step of a run has more calls than LONGEST. */
    private static final int RUNS = 48, CALLS = 512, LONGEST = 7, STACKS = 6;
    private static final Check CHECK = new Check("AimedModelTest");
    private static final String[] WORDS = {"glass", "clear", "thick", "dyed", "smoked", "mirror"};
    private static final int[][] NUMBERS = {{5, 10}, {10}, {0, 5, 10}, {9, 10}};
    private static final int[] POWERS = {0, 0, 9, 1, 2}, WEIGHTS = {0, 0, 1, 9}, STRONG = {9, 9, 8};

    private static long state = 8L;
    /** How often the seldom answers came, so that the aim itself is tested. */
    private static int pairs = 0, lateFades = 0, tallDarks = 0, neverDarks = 0, manyFewest = 0;

    private final ColourStacks x = new ColourStacks();
    private final Model y = new Model();
    private final String run;
    private final int[] numbers, powers, weights;
    private int calls = 0;

    private AimedModelTest(int run) {
        this.run = "run " + run;
        numbers = NUMBERS[run % NUMBERS.length];
        powers = run % 3 == 0 ? STRONG : POWERS;
        weights = run % 3 == 1 ? STRONG : WEIGHTS;
    }

    public static void main(String[] args) {
        for (int run = 0; run < RUNS; run++) {
            AimedModelTest test = new AimedModelTest(run);
            test.begin();
            while (test.calls <= CALLS - LONGEST) test.go();
        }
        CHECK.holds("false pairs came", pairs > 150);
        CHECK.holds("stacks that fade late came", lateFades > 50);
        CHECK.holds("stacks dark with many more sheets came", tallDarks > 50);
        CHECK.holds("stacks that no eight sheets make dark came", neverDarks > 150);
        CHECK.holds("many stacks of one wish came", manyFewest > 3);
        CHECK.done();
    }

    private static int draw(int below) {
        state = state * 6364136223846793005L + 1442695040888963407L;
        return (int) ((state >>> 33) % below);
    }

    private static int oneOf(int[] row) {
        return row[draw(row.length)];
    }

    private long due(String call, long got, long want) {
        calls++;
        CHECK.due(run + ", call " + calls + ": " + call, got, want);
        return want;
    }

    private void feedAll(String text) {
        for (int i = 0; i < text.length(); i++) due("feed", x.feed(text.charAt(i)), y.feed(text.charAt(i)));
    }

    private void begin() {
        for (int sheets = 1 + draw(6); sheets > 0; sheets--) {
            StringBuilder clause = new StringBuilder(WORDS[draw(WORDS.length)]).append(' ').append(draw(10));
            for (int band = 0; band < 5; band++) clause.append(band == 0 ? ' ' : ',').append(oneOf(numbers));
            feedAll(clause.toString());
            due("sheets after " + clause, x.sheets(), y.sheets());
        }
        for (int stack = 0; stack < STACKS; stack++) {
            StringBuilder letters = new StringBuilder();
            for (int i = draw(4) * (1 + draw(2)); i > 0; i--) letters.append((char) ('a' + draw(y.count(0))));
            if (letters.length() == 0) letters.append('-');
            feedAll(letters.toString());
            due("stack after " + letters, x.stack(), y.stack());
        }
        for (int i = 0; i < 15; i++) {
            setPower(i / 5, i % 5, oneOf(powers));
            if (draw(3) > 0) setWeight(i / 5, i % 5, oneOf(weights));
        }
    }

    private void setPower(int lamp, int band, int v) {
        due("power " + lamp + " " + band + " " + v, x.power(lamp, band, v), y.power(lamp, band, v));
    }

    private void setWeight(int eye, int band, int v) {
        due("weight " + eye + " " + band + " " + v, x.weight(eye, band, v), y.weight(eye, band, v));
    }

    private void go() {
        switch (draw(8)) {
            case 0 -> alter();
            case 1, 2 -> lookForPairs();
            case 3 -> rank();
            case 4 -> fade();
            case 5 -> darken();
            case 6 -> {
                int stack = draw(STACKS), lamp = draw(3), what = draw(2);
                due("without " + stack + " " + lamp + " " + what, x.without(stack, lamp, what),
                    y.without(stack, lamp, what));
            }
            default -> {
                // the model takes long for a wish, so it is asked seldom
                if (draw(10) == 0) wishFor();
            }
        }
    }

    private void alter() {
        int sheet = draw(y.count(0)), stack = draw(STACKS);
        switch (draw(5)) {
            case 0 -> {
                int band = draw(5), v = oneOf(numbers);
                due("number " + sheet + " " + band + " " + v, x.number(sheet, band, v), y.number(sheet, band, v));
            }
            case 1 -> setPower(draw(3), draw(5), oneOf(powers));
            case 2 -> setWeight(draw(3), draw(5), oneOf(weights));
            case 3 -> due("take " + stack, x.take(stack), y.take(stack));
            default -> due("lay " + stack + " " + sheet, x.lay(stack, sheet), y.lay(stack, sheet));
        }
    }

    private void lookForPairs() {
        int lamp = draw(3), one = draw(STACKS), other = draw(STACKS);
        if (due("falsePairs " + lamp + " 0", x.falsePairs(lamp, 0), y.falsePairs(lamp, 0)) > 0) pairs++;
        due("falsePairs " + lamp + " 1", x.falsePairs(lamp, 1), y.falsePairs(lamp, 1));
        due("alike " + one + " " + other + " " + lamp, x.alike(one, other, lamp), y.alike(one, other, lamp));
    }

    private void rank() {
        int lamp = draw(3);
        for (int place = 0; place < STACKS; place++) {
            due("ranked " + lamp + " " + place, x.ranked(lamp, place), y.ranked(lamp, place));
        }
    }

    private void fade() {
        int stack = draw(STACKS), lamp = draw(3), n = draw(11), eye = draw(3), part = draw(2);
        if (due("fades " + stack + " " + lamp, x.fades(stack, lamp), y.fades(stack, lamp)) > 1) lateFades++;
        due("sees " + stack + " " + lamp + " " + n + " " + eye + " " + part, x.sees(stack, lamp, n, eye, part),
            y.sees(stack, lamp, n, eye, part));
    }

    private void darken() {
        int stack = draw(STACKS), lamp = draw(3), sheet = draw(y.count(0));
        long more = due("dark " + stack + " " + lamp + " " + sheet, x.dark(stack, lamp, sheet),
            y.dark(stack, lamp, sheet));
        if (more > 1) tallDarks++;
        if (more == Check.NOT) neverDarks++;
    }

    private void wishFor() {
        int stack = draw(STACKS), lamp = draw(3);
        int red = y.shade(stack, lamp, 0, 0), green = y.shade(stack, lamp, 0, 1), blue = y.shade(stack, lamp, 0, 2);
        due("wish " + red + " " + green + " " + blue, x.wish(red, green, blue), y.wish(red, green, blue));
        for (int what : new int[] {0, 1, 10 + draw(4)}) {
            long answer = due("fewest " + lamp + " " + what, x.fewest(lamp, what), y.fewest(lamp, what));
            if (what == 1 && answer > 1) manyFewest++;
        }
        for (int what : new int[] {0, 1, 10 + draw(3)}) {
            due("nearest " + lamp + " " + what, x.nearest(lamp, what), y.nearest(lamp, what));
        }
    }
}
