/** Promises 1 to 12: a new object, the tape, sheets, stacks, lamps and weights. */
public final class SheetsTest {
    private static final Check CHECK = new Check("SheetsTest");

    private static void due(String call, long got, long want) {
        CHECK.due(call, got, want);
    }

    public static void main(String[] args) {
        newObject();
        feed();
        sheetsToldWell();
        sheetsToldBadly();
        sheetsFull();
        number();
        becomes();
        sheet();
        stack();
        stackFull();
        lay();
        take();
        at();
        power();
        weight();
        CHECK.done();
    }

    private static void newObject() {
        ColourStacks x = new ColourStacks();
        for (int what = 0; what < 8; what++) due("1 count " + what, x.count(what), 0);
        due("1 undo", x.undo(), Check.STATE);
        due("1 at", x.at(0, -1), Check.NONE);
        due("1 sheet", x.sheet(0, 0), Check.NONE);
        int[] weights = {0, 0, 1, 2, 3, 0, 1, 3, 1, 0, 4, 2, 0, 0, 0};
        for (int i = 0; i < 15; i++) {
            due("1 power " + i, x.power(i / 5, i % 5, 0), 9);
            due("1 weight " + i, x.weight(i / 5, i % 5, 9), weights[i]);
        }
        for (int list = 0; list < 4; list++) due("1 change " + list, x.change(list), Check.NOTHING);
    }

    private static void feed() {
        ColourStacks x = new ColourStacks();
        due("2 below", x.feed(0), Check.BAD);
        due("2 above", x.feed(128), Check.BAD);
        due("2 minus", x.feed(-1), Check.BAD);
        due("2 far", x.feed(Integer.MIN_VALUE), Check.BAD);
        due("2 count", x.count(2), 0);
        due("2 least", x.feed(1), 1);
        due("2 most", x.feed(127), 2);
        for (int i = 3; i <= 80; i++) due("2 byte " + i, x.feed('a'), i);
        due("2 full", x.feed('a'), Check.FULL);
        due("2 bad ahead of full", x.feed(128), Check.BAD);
        due("2 count full", x.count(2), 80);
        due("2 read", x.sheets(), -100);
        due("2 empty again", x.feed('a'), 1);
    }

    private static void sheetsToldWell() {
        ColourStacks x = new ColourStacks();
        due("3 one", Check.sheets(x, "glass 0 0,1,2,3,10"), 1);
        due("3 tape", x.count(2), 0);
        due("3 three", Check.sheets(x, "thick 1 10,10,10,10,10;smoked 9 1,0,1,0,1"), 3);
        due("3 five", Check.sheets(x, "mirror 5 9,8,7,6,5;dyed 7 4,4,4,4,4"), 5);
        due("3 six", Check.sheets(x, "clear 3 0,0,2,0,1"), 6);
        int[] kinds = {0, 1, 2, 3, 4, 5};
        int[] figures = {0, 1, 9, 5, 7, 3};
        int[][] numbers = {{0, 1, 2, 3, 10}, {10, 10, 10, 10, 10}, {1, 0, 1, 0, 1},
            {9, 8, 7, 6, 5}, {4, 4, 4, 4, 4}, {0, 0, 2, 0, 1}};
        for (int i = 0; i < 6; i++) {
            due("3 kind " + i, x.sheet(i, 0), kinds[i]);
            due("3 figure " + i, x.sheet(i, 1), figures[i]);
            for (int band = 0; band < 5; band++) due("3 number " + i, x.sheet(i, 10 + band), numbers[i][band]);
        }
    }

    private static void sheetsToldBadly() {
        String[] texts = {"", "glass", "glass ", "glass 1", "glass 1 ", "glass 1 1,1,1,1", "glass 1 1,1,1,1,",
            "glass 1 1,1,1,1,1;", "gla", "glasss 1 1,1,1,1,1", "Glass 1 1,1,1,1,1", " glass", ";", "1",
            "glass  1 1,1,1,1,1", "glass 10 1,1,1,1,1", "glass a 1,1,1,1,1", "glass 1,1", "glass 1 01,1,1,1,1",
            "glass 1 11,1,1,1,1", "glass 1 100,1,1,1,1", "glass 1 1,,1,1,1", "glass 1 1,1,1,1;",
            "glass 1 1,1,1,1,1,1", "glass 1 1,1,1,1,10;", "glass 1 1,1,1,1,100", "glass 1 1,1,1,1,1 ",
            "glass 1 1,1,1,1,1;;", "glass 1 1,1,1,1,1;thik 1 1,1,1,1,1", "glass 1 1,1,1,1,1;glas 1 x",
            "glass 1 1,1,1,1,1;glass", "glass1 1,1,1,1,1", "glass;1", "glass 1 1,1,1,1,a", "glass 1 1;1,1,1,1"};
        int[] faults = {0, 5, 6, 7, 8, 15, 16,
            18, 0, 0, 0, 0, 0, 0,
            6, 7, 6, 7, 9,
            9, 10, 10, 15,
            17, 19, 18, 17,
            18, 18, 18,
            23, 5, 5, 16, 9};
        for (int i = 0; i < texts.length; i++) {
            ColourStacks x = new ColourStacks();
            due("3 '" + texts[i] + "'", Check.sheets(x, texts[i]), -100 - faults[i]);
            due("3 tape behind '" + texts[i] + "'", x.count(2), 0);
            due("3 sheets behind '" + texts[i] + "'", x.count(0), 0);
        }
    }

    private static ColourStacks eightSheets() {
        ColourStacks x = new ColourStacks();
        Check.sheets(x, "dyed 0 0,0,0,0,0;dyed 1 1,1,1,1,1;dyed 2 2,2,2,2,2;dyed 3 3,3,3,3,3");
        Check.sheets(x, "dyed 4 4,4,4,4,4;dyed 5 5,5,5,5,5;dyed 6 6,6,6,6,6");
        return x;
    }

    private static void sheetsFull() {
        ColourStacks x = eightSheets();
        due("3 seven", x.count(0), 7);
        due("3 nine refused", Check.sheets(x, "glass 0 1,1,1,1,1;glass 0 1,1,1,1,1"), Check.FULL);
        due("3 none comes", x.count(0), 7);
        due("3 tape behind full", x.count(2), 0);
        due("3 eighth", Check.sheets(x, "glass 8 10,9,8,7,6"), 8);
        due("3 ninth", Check.sheets(x, "glass 0 1,1,1,1,1"), Check.FULL);
        due("3 fault ahead of full", Check.sheets(x, "glass 0 1,1,1,1,1;"), -118);
        due("3 eighth's figure", x.sheet(7, 1), 8);
        due("3 eighth's number", x.sheet(7, 14), 6);
    }

    private static void number() {
        ColourStacks x = new ColourStacks();
        Check.sheets(x, "glass 0 0,1,2,3,10");
        due("4 first", x.number(0, 0, 10), 0);
        due("4 again", x.number(0, 0, 0), 10);
        due("4 last band", x.number(0, 4, 7), 10);
        due("4 stands", x.sheet(0, 14), 7);
        due("4 neighbour", x.sheet(0, 13), 3);
        due("4 above", x.number(0, 1, 11), Check.BAD);
        due("4 below", x.number(0, 1, -1), Check.BAD);
        due("4 unchanged", x.sheet(0, 11), 1);
        due("4 sheet", x.number(1, 0, 0), Check.NONE);
        due("4 sheet below", x.number(-1, 0, 0), Check.NONE);
        due("4 band", x.number(0, 5, 0), Check.NONE);
        due("4 band below", x.number(0, -1, 0), Check.NONE);
        due("4 none ahead of bad", x.number(0, 5, 11), Check.NONE);
    }

    private static void becomes() {
        ColourStacks x = new ColourStacks();
        Check.sheets(x, "mirror 7 0,1,2,3,10");
        due("5 first", x.becomes(0, 5, 9), 37);
        due("5 second", x.becomes(0, 0, 0), 59);
        due("5 kind above", x.becomes(0, 6, 0), Check.NONE);
        due("5 kind below", x.becomes(0, -1, 0), Check.NONE);
        due("5 sheet", x.becomes(1, 0, 0), Check.NONE);
        due("5 sheet below", x.becomes(-1, 0, 0), Check.NONE);
        due("5 figure above", x.becomes(0, 1, 10), Check.BAD);
        due("5 figure below", x.becomes(0, 1, -1), Check.BAD);
        due("5 none ahead of bad", x.becomes(0, 6, 10), Check.NONE);
        due("5 unchanged", x.becomes(0, 4, 4), 0);
    }

    private static void sheet() {
        ColourStacks x = new ColourStacks();
        Check.sheets(x, "glass 6 0,1,7,9,10");
        int[][] lets = {{0, 10, 70, 90, 100}, {0, 1, 49, 81, 100}, {0, 6, 42, 54, 60},
            {100, 94, 58, 46, 40}, {0, 0, 49, 81, 100}, {100, 100, 100, 100, 100}};
        for (int kind = 0; kind < 6; kind++) {
            x.becomes(0, kind, 6);
            due("6 kind", x.sheet(0, 0), kind);
            for (int band = 0; band < 5; band++) due("6 lets " + kind, x.sheet(0, 20 + band), lets[kind][band]);
        }
        x.becomes(0, 4, 8);
        due("6 dyed of 3", x.sheet(0, 23), 0);
        due("6 dyed of 1", x.sheet(0, 21), 1);
        x.becomes(0, 4, 5);
        due("6 dyed of 0", x.sheet(0, 24), 100);
        x.becomes(0, 2, 0);
        due("6 smoked by 0", x.sheet(0, 24), 0);
        x.becomes(0, 3, 9);
        due("6 mirror by 9", x.sheet(0, 24), 10);
        x.becomes(0, 5, 0);
        x.number(0, 4, 8);
        due("6 clear", x.sheet(0, 20), 90);
        for (int band = 0; band < 5; band++) x.number(0, band, 0);
        due("6 clear of nothing", x.sheet(0, 22), 0);
        int[] none = {-1, 2, 9, 15, 19, 25, Integer.MIN_VALUE, Integer.MAX_VALUE};
        for (int what : none) due("6 what " + what, x.sheet(0, what), Check.NONE);
        due("6 sheet above", x.sheet(1, 0), Check.NONE);
        due("6 sheet below", x.sheet(-1, 0), Check.NONE);
    }

    private static void stack() {
        ColourStacks x = new ColourStacks();
        due("7 no sheets", Check.stack(x, "a"), -100);
        Check.sheets(x, "glass 0 1,1,1,1,1;glass 0 2,2,2,2,2");
        String[] texts = {"", "--", "-a", "a-", "c", "abc", "A", "a;", "ab ab", "abababa", "`", "ababab-", "1"};
        int[] faults = {0, 1, 1, 1, 0, 2, 0, 1, 2, 6, 0, 6, 0};
        for (int i = 0; i < texts.length; i++) {
            due("7 '" + texts[i] + "'", Check.stack(x, texts[i]), -100 - faults[i]);
            due("7 tape behind", x.count(2), 0);
            due("7 stacks behind", x.count(1), 0);
        }
        due("7 first", Check.stack(x, "ababab"), 0);
        due("7 none on it", Check.stack(x, "-"), 1);
        due("7 third", Check.stack(x, "b"), 2);
        due("7 height", x.at(0, -1), 6);
        due("7 empty", x.at(1, -1), 0);
        due("7 lowest", x.at(0, 0), 0);
        due("7 uppermost", x.at(0, 5), 1);
        due("7 third's", x.at(2, 0), 1);
    }

    private static void stackFull() {
        ColourStacks x = eightSheets();
        for (int i = 0; i < 6; i++) due("7 stack " + i, Check.stack(x, "g"), i);
        due("7 full", Check.stack(x, "g"), Check.FULL);
        due("7 tape behind full", x.count(2), 0);
        due("7 fault ahead of full", Check.stack(x, "gh"), -101);
        due("7 six", x.count(1), 6);
        due("7 laid", x.count(4), 6);
    }

    private static void lay() {
        ColourStacks x = eightSheets();
        Check.stack(x, "-");
        Check.stack(x, "g");
        for (int i = 1; i <= 6; i++) due("8 laid", x.lay(0, i), i);
        due("8 full", x.lay(0, 0), Check.FULL);
        due("8 none ahead of full", x.lay(0, 7), Check.NONE);
        due("8 lowest", x.at(0, 0), 1);
        due("8 uppermost", x.at(0, 5), 6);
        due("8 other", x.at(1, 0), 6);
        due("8 stack", x.lay(2, 0), Check.NONE);
        due("8 stack below", x.lay(-1, 0), Check.NONE);
        due("8 sheet", x.lay(1, 7), Check.NONE);
        due("8 sheet below", x.lay(1, -1), Check.NONE);
        due("8 count", x.count(4), 7);
    }

    private static void take() {
        ColourStacks x = eightSheets();
        Check.stack(x, "abc");
        due("9 c", x.take(0), 2);
        due("9 b", x.take(0), 1);
        due("9 left", x.at(0, -1), 1);
        due("9 a", x.take(0), 0);
        due("9 empty", x.take(0), Check.STATE);
        due("9 stays", x.count(1), 1);
        due("9 stack", x.take(1), Check.NONE);
        due("9 stack below", x.take(-1), Check.NONE);
        due("9 laid again", x.lay(0, 4), 1);
    }

    private static void at() {
        ColourStacks x = eightSheets();
        Check.stack(x, "gfa");
        due("10 height", x.at(0, -1), 3);
        due("10 lowest", x.at(0, 0), 6);
        due("10 uppermost", x.at(0, 2), 0);
        due("10 place", x.at(0, 3), Check.NONE);
        due("10 place below", x.at(0, -2), Check.NONE);
        due("10 far", x.at(0, Integer.MAX_VALUE), Check.NONE);
        due("10 stack", x.at(1, -1), Check.NONE);
        due("10 stack below", x.at(-1, -1), Check.NONE);
    }

    private static void power() {
        ColourStacks x = new ColourStacks();
        due("11 first", x.power(0, 0, 0), 9);
        due("11 again", x.power(0, 0, 5), 0);
        due("11 last", x.power(2, 4, 9), 9);
        due("11 other lamp", x.power(1, 0, 1), 9);
        due("11 other band", x.power(0, 1, 1), 9);
        due("11 above", x.power(0, 0, 10), Check.BAD);
        due("11 below", x.power(0, 0, -1), Check.BAD);
        due("11 lamp", x.power(3, 0, 0), Check.NONE);
        due("11 lamp below", x.power(-1, 0, 0), Check.NONE);
        due("11 band", x.power(0, 5, 0), Check.NONE);
        due("11 band below", x.power(0, -1, 0), Check.NONE);
        due("11 none ahead of bad", x.power(3, 0, 10), Check.NONE);
        due("11 unchanged", x.power(0, 0, 0), 5);
    }

    private static void weight() {
        ColourStacks x = new ColourStacks();
        due("12 first", x.weight(0, 0, 9), 0);
        due("12 again", x.weight(0, 0, 0), 9);
        due("12 red", x.weight(0, 4, 0), 3);
        due("12 green", x.weight(1, 2, 0), 3);
        due("12 blue", x.weight(2, 1, 0), 2);
        due("12 above", x.weight(0, 3, 10), Check.BAD);
        due("12 below", x.weight(0, 3, -1), Check.BAD);
        due("12 eye", x.weight(3, 0, 0), Check.NONE);
        due("12 eye below", x.weight(-1, 0, 0), Check.NONE);
        due("12 band", x.weight(0, 5, 0), Check.NONE);
        due("12 band below", x.weight(0, -1, 0), Check.NONE);
        due("12 none ahead of bad", x.weight(3, 0, 10), Check.NONE);
        due("12 unchanged", x.weight(0, 3, 1), 2);
    }
}
