/**
 * Long runs of calls, the same ones to the program and to the model. What is called is drawn by an own
 * generator with a fixed seed, so that each run of this test is the same.
 */
public final class ModelTest {
    /** The document promises an object's first 512 calls; no step of a run has more calls than LONGEST. */
    private static final int RUNS = 400, CALLS = 512, LONGEST = 100;
    private static final Check CHECK = new Check("ModelTest");
    private static final String[] WORDS = {"glass", "thick", "smoked", "mirror", "dyed", "clear"};
    private static final int[] EXTREMES = {Integer.MIN_VALUE, Integer.MIN_VALUE + 1, -65536, -100, 100, 65536,
        Integer.MAX_VALUE - 1, Integer.MAX_VALUE};

    private static long state = 20261118L;

    private ColourStacks x = new ColourStacks();
    private Model y = new Model();
    private final String run;
    private int calls = 0;

    private ModelTest(int run) {
        this.run = "run " + run;
    }

    public static void main(String[] args) {
        for (int run = 0; run < RUNS; run++) new ModelTest(run).go(run);
        CHECK.done();
    }

    private static int draw(int below) {
        state = state * 6364136223846793005L + 1442695040888963407L;
        return (int) ((state >>> 33) % below);
    }

    /** Mostly one of 0 .. count - 1, at times one that just isn't, seldom one far off. */
    private static int about(int count) {
        int chance = draw(40);
        if (chance == 0) return EXTREMES[draw(EXTREMES.length)];
        if (chance == 1) return -1 - draw(2);
        if (chance <= 3 || count == 0) return count + draw(2);
        return draw(count);
    }

    private static int number() {
        return draw(3) == 0 ? 10 : draw(11);
    }

    private static String clause() {
        StringBuilder text = new StringBuilder(WORDS[draw(6)]).append(' ').append(draw(10)).append(' ');
        boolean even = draw(2) == 0;
        int same = number();
        for (int band = 0; band < 5; band++) {
            if (band > 0) text.append(',');
            text.append(even && draw(4) != 0 ? same : number());
        }
        return text.toString();
    }

    private static String spoiled(String text) {
        StringBuilder spoiled = new StringBuilder(text);
        String signs = "abcglth 0123,;-zA/\t\u0001\u007f1";
        for (int i = 1 + draw(2); i > 0; i--) {
            int place = draw(spoiled.length() + 1);
            char sign = signs.charAt(draw(signs.length()));
            int how = draw(4);
            if (how == 0) spoiled.setLength(place);
            else if (how == 1 || place == spoiled.length()) spoiled.insert(place, sign);
            else if (how == 2) spoiled.deleteCharAt(place);
            else spoiled.setCharAt(place, sign);
        }
        return spoiled.toString();
    }

    private void due(String call, long got, long want) {
        calls++;
        CHECK.due(run + ", call " + calls + ": " + call, got, want);
    }

    private void feedAll(String text) {
        for (int i = 0; i < text.length(); i++) {
            int letter = draw(300) == 0 ? about(128) : text.charAt(i);
            due("feed " + letter, x.feed(letter), y.feed(letter));
        }
    }

    private void tellSheets() {
        StringBuilder text = new StringBuilder(clause());
        for (int i = draw(4); i > 0; i--) text.append(';').append(clause());
        feedAll(draw(4) == 0 ? spoiled(text.toString()) : text.toString());
        due("sheets after " + text, x.sheets(), y.sheets());
    }

    private void tellStack() {
        StringBuilder text = new StringBuilder();
        int count = y.count(0);
        for (int i = draw(7); i > 0; i--) text.append((char) ('a' + draw(Math.max(1, count))));
        if (text.length() == 0) text.append('-');
        feedAll(draw(8) == 0 ? spoiled(text.toString()) : text.toString());
        due("stack after " + text, x.stack(), y.stack());
    }

    private void go(int number) {
        if (number % 8 != 0) {
            tellSheets();
            if (number % 3 == 0) tellSheets();
            for (int i = draw(5); i > 0; i--) tellStack();
        }
        while (calls < CALLS) {
            int group = draw(20);
            if (calls > CALLS - LONGEST) see();
            else if (group < 5) build();
            else if (group < 9) see();
            else if (group < 12) ask();
            else if (group < 16) judge();
            else keep();
        }
    }

    private void build() {
        int sheet = about(y.count(0)), stack = about(y.count(1)), band = about(5);
        switch (draw(12)) {
            case 0 -> tellSheets();
            case 1, 2 -> tellStack();
            case 3 -> {
                int v = about(11);
                due("number " + sheet + " " + band + " " + v, x.number(sheet, band, v), y.number(sheet, band, v));
            }
            case 4 -> {
                int kind = about(6), figure = about(10);
                due("becomes " + sheet + " " + kind + " " + figure, x.becomes(sheet, kind, figure),
                    y.becomes(sheet, kind, figure));
            }
            case 5 -> {
                int what = new int[] {about(2), 10 + about(5), 20 + about(5)}[draw(3)];
                due("sheet " + sheet + " " + what, x.sheet(sheet, what), y.sheet(sheet, what));
            }
            case 6, 7 -> due("lay " + stack + " " + sheet, x.lay(stack, sheet), y.lay(stack, sheet));
            case 8 -> due("take " + stack, x.take(stack), y.take(stack));
            case 9 -> {
                int place = about(8) - 1;
                due("at " + stack + " " + place, x.at(stack, place), y.at(stack, place));
            }
            case 10 -> {
                int lamp = about(3), v = draw(2) == 0 ? 0 : about(10);
                due("power " + lamp + " " + band + " " + v, x.power(lamp, band, v), y.power(lamp, band, v));
            }
            default -> {
                int eye = about(3), v = draw(2) == 0 ? 0 : about(10);
                due("weight " + eye + " " + band + " " + v, x.weight(eye, band, v), y.weight(eye, band, v));
            }
        }
    }

    private void see() {
        int stack = about(y.count(1)), other = about(y.count(1)), lamp = about(3), eye = about(3), part = about(2);
        int n = about(11);
        String by = " " + stack + " " + lamp + " " + n + " " + eye + " " + part;
        switch (draw(6)) {
            case 0 -> {
                int band = about(5);
                due("through" + by + " band " + band, x.through(stack, band, part), y.through(stack, band, part));
            }
            case 1 -> due("sees" + by, x.sees(stack, lamp, n, eye, part), y.sees(stack, lamp, n, eye, part));
            case 2 -> due("shade" + by, x.shade(stack, lamp, n, eye), y.shade(stack, lamp, n, eye));
            case 3 -> due("alike" + by + " other " + other, x.alike(stack, other, lamp), y.alike(stack, other, lamp));
            case 4 -> due("falsePairs" + by, x.falsePairs(lamp, part), y.falsePairs(lamp, part));
            default -> {
                int place = about(y.count(1));
                due("ranked " + lamp + " " + place, x.ranked(lamp, place), y.ranked(lamp, place));
            }
        }
    }

    /** A wish that can come true, as often as not. */
    private void wishWell() {
        int stack = draw(Math.max(1, y.count(1))), off = draw(2) * draw(3);
        int red = y.shade(stack, 0, 0, 0) + off, green = y.shade(stack, 0, 0, 1), blue = y.shade(stack, 0, 0, 2);
        due("wish " + red + " " + green + " " + blue, x.wish(red, green, blue), y.wish(red, green, blue));
    }

    private void ask() {
        int stack = about(y.count(1)), lamp = about(3), sheet = about(y.count(0)), what = about(2);
        switch (draw(9)) {
            case 0 -> {
                int red = about(60), green = about(10000), blue = about(60);
                due("wish " + red + " " + green + " " + blue, x.wish(red, green, blue), y.wish(red, green, blue));
            }
            case 1, 2 -> wishWell();
            case 3, 4 -> {
                int asked = draw(2) == 0 ? what : 10 + about(4);
                // the model takes long for it, so it is asked seldom
                if (draw(4) == 0) due("fewest " + lamp + " " + asked, x.fewest(lamp, asked), y.fewest(lamp, asked));
            }
            case 5 -> {
                int asked = draw(2) == 0 ? what : 10 + about(3);
                due("nearest " + lamp + " " + asked, x.nearest(lamp, asked), y.nearest(lamp, asked));
            }
            case 6 -> due("without " + stack + " " + lamp + " " + what, x.without(stack, lamp, what),
                y.without(stack, lamp, what));
            case 7 -> due("dark " + stack + " " + lamp + " " + sheet, x.dark(stack, lamp, sheet),
                y.dark(stack, lamp, sheet));
            default -> due("fades " + stack + " " + lamp, x.fades(stack, lamp), y.fades(stack, lamp));
        }
    }

    /** Puts what stacks look like into a list, so that judge() and was() find something. */
    private void tellShades() {
        int list = draw(4), from = draw(4) == 0 ? draw(3) : 0, lamp = draw(3);
        int n = draw(3) == 0 ? draw(19) : Math.min(18, 3 * Math.max(1, y.count(1)));
        due("list " + list + " " + n, x.list(list, n), y.list(list, n));
        for (int i = 0; i < n; i++) {
            int v = y.shade(from + i / 3, lamp, 0, i % 3) + (draw(20) == 0 ? 1 : 0);
            due("put " + list + " " + i + " " + v, x.put(list, i, v), y.put(list, i, v));
        }
    }

    private void tellRows() {
        int list = draw(4), n = draw(19);
        due("list " + list + " " + n, x.list(list, n), y.list(list, n));
        for (int i = 0; i < n; i++) {
            int v = i % 3 == 0 ? about(y.count(0)) : i % 3 == 1 ? about(5) : about(11);
            due("put " + list + " " + i + " " + v, x.put(list, i, v), y.put(list, i, v));
        }
        due("change " + list, x.change(list), y.change(list));
    }

    private void judge() {
        int stack = about(y.count(1)), lamp = about(3), sheet = about(y.count(0)), what = about(2), list = about(4);
        switch (draw(12)) {
            case 0, 1, 2 -> due("was " + sheet + " " + stack + " " + lamp + " " + list + " " + what,
                x.was(sheet, stack, lamp, list, what), y.was(sheet, stack, lamp, list, what));
            case 3, 4 -> {
                int k = about(5), seed = draw(3) == 0 ? about(9) : draw(1 << 30) * 4 + draw(4), m = about(21);
                int eye = about(3), v = draw(5) == 0 ? about(400) : draw(30);
                due("odds " + k + " " + seed + " " + m + " " + lamp + " " + eye + " " + v + " " + what,
                    x.odds(k, seed, m, lamp, eye, v, what), y.odds(k, seed, m, lamp, eye, v, what));
            }
            case 5, 6 -> due("spell " + stack, x.spell(stack), y.spell(stack));
            case 7 -> {
                int i = about(Math.max(1, y.count(3)));
                due("paper " + i, x.paper(i), y.paper(i));
            }
            case 8, 9 -> due("judge " + list + " " + lamp, x.judge(list, lamp), y.judge(list, lamp));
            case 10 -> due("change " + list, x.change(list), y.change(list));
            default -> tellShades();
        }
    }

    private void keep() {
        int list = about(4), i = about(18);
        switch (draw(8)) {
            case 0 -> {
                int n = about(19);
                due("list " + list + " " + n, x.list(list, n), y.list(list, n));
            }
            case 1 -> {
                int v = about(60);
                due("put " + list + " " + i + " " + v, x.put(list, i, v), y.put(list, i, v));
            }
            case 2 -> due("get " + list + " " + i, x.get(list, i), y.get(list, i));
            case 3 -> due("image", x.image(), y.image());
            case 4 -> due("undo", x.undo(), y.undo());
            case 5 -> {
                if (draw(3) == 0) tellRows();
            }
            default -> {
                int what = about(8);
                due("count " + what, x.count(what), y.count(what));
            }
        }
    }
}
