/**
 * Stacks of coloured glass sheets, lamps, and what three eyes see of the one by the other.
 * The promises that it keeps are numbered in ../shared/DOC.md.
 */
public final class ColourStacks {
    public static final int NONE = -1, BAD = -2, STATE = -3, FULL = -4, NOT = -5;
    public static final long NO = Long.MIN_VALUE;

    private static final int NOTHING = -11, BEYOND = -13, BELOW = -14;
    private static final int FAULT_BASE = -100;

    private static final int BANDS = 5, LAMPS = 3, EYES = 3;
    private static final int SHEETS = 8, KINDS = 6, FIGURES = 10, MOST_NUMBER = 10;
    private static final int STACKS = 6, HEIGHT = 6, HEIGHT_IN_THOUGHT = 8;
    private static final int MOST_POWER = 9, MOST_WEIGHT = 9, MOST_SHADE = 9999;
    private static final int OLDEST = 10, FADING_BANDS = 2;
    private static final int FEWEST_HEIGHT = 4, NEAREST_HEIGHT = 3;
    private static final int MOST_DRAWN = 4, MOST_SEEDS = 20;
    private static final int TAPE_BYTES = 80, LETTERS = 127;
    private static final int LISTS = 4, LIST_PLACES = 18, ROW = 3;
    private static final int GREATEST_INT = 0x7fffffff;

    private final Scene scene;
    private final Scene picture;
    private boolean pictured;
    private final Light light;
    private final Thought thought;
    private final Tape tape;
    private final Paper sheetOfPaper;
    private final Lists lists;
    private final int[] first;
    private final int[] second;
    private final long[] seenFirst;
    private final long[] seenSecond;

    public ColourStacks() {
        scene = new Scene();
        picture = new Scene();
        pictured = false;
        light = new Light(scene);
        thought = new Thought(scene, light);
        tape = new Tape();
        sheetOfPaper = new Paper();
        lists = new Lists();
        first = new int[EYES];
        second = new int[EYES];
        seenFirst = new long[EYES];
        seenSecond = new long[EYES];
    }

    // ---- sheets, stacks

    public int feed(int letter) {
        if (letter < 1 || letter > LETTERS) return BAD;
        return tape.append(letter) ? tape.size : FULL;
    }

    public int sheets() {
        int fault = tape.readSheets();
        tape.size = 0;
        if (fault >= 0) return FAULT_BASE - fault;
        if (scene.sheetCount + tape.clauses > SHEETS) return FULL;
        for (int i = 0; i < tape.clauses; i++) {
            scene.addSheet(tape.kinds[i], tape.figures[i], tape.numbers, i * BANDS);
        }
        return scene.sheetCount;
    }

    public int number(int sheet, int band, int v) {
        if (!scene.hasSheet(sheet) || !within(band, BANDS)) return NONE;
        if (!within(v, MOST_NUMBER + 1)) return BAD;
        return exchange(scene.numbers, sheet * BANDS + band, v);
    }

    public int becomes(int sheet, int kind, int figure) {
        if (!scene.hasSheet(sheet) || !within(kind, KINDS)) return NONE;
        if (!within(figure, FIGURES)) return BAD;
        return 10 * exchange(scene.kinds, sheet, kind) + exchange(scene.figures, sheet, figure);
    }

    public int sheet(int sheet, int what) {
        if (!scene.hasSheet(sheet)) return NONE;
        if (what == 0) return scene.kinds[sheet];
        if (what == 1) return scene.figures[sheet];
        if (within(what - 10, BANDS)) return scene.numbers[sheet * BANDS + (what - 10)];
        if (within(what - 20, BANDS)) {
            return scene.letsAs(sheet, scene.kinds[sheet], scene.figures[sheet], what - 20);
        }
        return NONE;
    }

    public int stack() {
        int fault = tape.readStack(scene.sheetCount);
        tape.size = 0;
        return fault >= 0 ? FAULT_BASE - fault : scene.addStack(tape.letters, tape.letterCount);
    }

    public int lay(int stack, int sheet) {
        if (!scene.hasStack(stack) || !scene.hasSheet(sheet)) return NONE;
        return scene.layOn(stack, sheet) ? scene.heights[stack] : FULL;
    }

    public int take(int stack) {
        if (!scene.hasStack(stack)) return NONE;
        if (scene.heights[stack] <= 0) return STATE;
        scene.heights[stack]--;
        return scene.sheetAt(stack, scene.heights[stack]);
    }

    public int at(int stack, int place) {
        if (!scene.hasStack(stack)) return NONE;
        if (place == -1) return scene.heights[stack];
        return within(place, scene.heights[stack]) ? scene.sheetAt(stack, place) : NONE;
    }

    public int power(int lamp, int band, int v) {
        if (!within(lamp, LAMPS) || !within(band, BANDS)) return NONE;
        if (!within(v, MOST_POWER + 1)) return BAD;
        return exchange(scene.powers, lamp * BANDS + band, v);
    }

    public int weight(int eye, int band, int v) {
        if (!within(eye, EYES) || !within(band, BANDS)) return NONE;
        if (!within(v, MOST_WEIGHT + 1)) return BAD;
        return exchange(scene.weights, eye * BANDS + band, v);
    }

    // ---- what is seen

    public long through(int stack, int band, int part) {
        if (!scene.hasStack(stack) || !within(band, BANDS) || !within(part, 2)) return NO;
        light.lookAtSheets();
        light.pileStack(stack);
        return partOf(light.comes[band], light.whole, part);
    }

    public long sees(int stack, int lamp, int n, int eye, int part) {
        if (!canSee(stack, lamp, n) || !within(eye, EYES) || !within(part, 2)) return NO;
        light.lookAtSheets();
        light.pileStack(stack);
        return partOf(light.seen(lamp, n, eye), light.wholeByAge(n), part);
    }

    public int shade(int stack, int lamp, int n, int eye) {
        if (!canSee(stack, lamp, n) || !within(eye, EYES)) return NONE;
        light.lookAtSheets();
        light.pileStack(stack);
        return light.shadeOf(lamp, n, eye);
    }

    public int alike(int one, int other, int lamp) {
        if (!scene.hasStack(one) || !scene.hasStack(other) || !within(lamp, LAMPS)) return NONE;
        light.lookAtSheets();
        return looksAlike(one, other, lamp) ? 1 : 0;
    }

    public int falsePairs(int lamp, int what) {
        if (!within(lamp, LAMPS) || !within(what, 2)) return NONE;
        light.lookAtSheets();
        int pairs = 0;
        for (int one = 0; one < scene.stackCount; one++) {
            for (int other = one + 1; other < scene.stackCount; other++) {
                if (isFalsePair(one, other, lamp)) {
                    if (what == 1) return 10 * one + other;
                    pairs++;
                }
            }
        }
        return what == 1 ? NOT : pairs;
    }

    public int ranked(int lamp, int place) {
        if (!within(lamp, LAMPS) || !within(place, scene.stackCount)) return NONE;
        light.lookAtSheets();
        for (int stack = 0; stack < scene.stackCount; stack++) {
            if (brighterThan(stack, lamp) == place) return stack;
        }
        return NONE;
    }

    // ---- wishes

    public int wish(int red, int green, int blue) {
        int shades = MOST_SHADE + 1;
        if (!within(red, shades) || !within(green, shades) || !within(blue, shades)) return BAD;
        scene.wished[0] = red;
        scene.wished[1] = green;
        scene.wished[2] = blue;
        return 1;
    }

    public int fewest(int lamp, int what) {
        boolean ofPlace = within(what - 10, FEWEST_HEIGHT);
        if (!within(lamp, LAMPS) || (!within(what, 2) && !ofPlace)) return NONE;
        thought.seekFewest(lamp);
        if (thought.found == 0) return NOT;
        if (what == 0) return thought.bestSize;
        if (what == 1) return thought.found;
        return thought.bestSheet(what - 10);
    }

    public int nearest(int lamp, int what) {
        boolean ofPlace = within(what - 10, NEAREST_HEIGHT);
        if (!within(lamp, LAMPS) || (!within(what, 2) && !ofPlace)) return NONE;
        thought.seekNearest(lamp);
        if (what == 0) return thought.bestSize;
        if (what == 1) return thought.bestMiss;
        return thought.bestSheet(what - 10);
    }

    public int without(int stack, int lamp, int what) {
        if (!scene.hasStack(stack) || !within(lamp, LAMPS) || !within(what, 2)) return NONE;
        if (scene.heights[stack] == 0) return STATE;
        light.lookAtSheets();
        light.pileStack(stack);
        light.shadesInto(first, lamp, 0);
        int most = -1;
        int place = 0;
        for (int i = 0; i < scene.heights[stack]; i++) {
            light.pileStackWithout(stack, i);
            light.shadesInto(second, lamp, 0);
            int change = differing(first, second);
            if (change > most) {
                most = change;
                place = i;
            }
        }
        return what == 0 ? place : most;
    }

    public int dark(int stack, int lamp, int sheet) {
        if (!scene.hasStack(stack) || !within(lamp, LAMPS) || !scene.hasSheet(sheet)) return NONE;
        light.lookAtSheets();
        light.pileStack(stack);
        int room = HEIGHT_IN_THOUGHT - scene.heights[stack];
        for (int more = 0; more <= room; more++) {
            if (light.isDark(lamp)) return more;
            light.add(sheet);
        }
        return NOT;
    }

    public int fades(int stack, int lamp) {
        if (!scene.hasStack(stack) || !within(lamp, LAMPS)) return NONE;
        light.lookAtSheets();
        light.pileStack(stack);
        light.shadesInto(first, lamp, 0);
        for (int n = 1; n <= OLDEST; n++) {
            light.shadesInto(second, lamp, n);
            if (differing(first, second) > 0) return n;
        }
        return NOT;
    }

    // ---- what it was, odds, spelled, judged

    public int was(int sheet, int stack, int lamp, int list, int what) {
        if (!scene.hasSheet(sheet) || !scene.hasStack(stack) || !within(lamp, LAMPS)) return NONE;
        if (!within(list, LISTS) || !within(what, 2)) return NONE;
        if (!lists.isHeld(list)) return NOTHING;
        if (lists.sizes[list] < EYES) return BEYOND;
        light.lookAtSheets();
        int bits = 0;
        int choices = what == 0 ? KINDS : FIGURES;
        for (int choice = 0; choice < choices; choice++) {
            int kind = what == 0 ? choice : scene.kinds[sheet];
            int figure = what == 0 ? scene.figures[sheet] : choice;
            light.lookAtSheetAs(sheet, kind, figure);
            light.pileStack(stack);
            if (listTellsShades(list, lamp)) bits |= 1 << choice;
        }
        return bits;
    }

    public long odds(int k, int seed, int m, int lamp, int eye, int v, int part) {
        if (!within(k, MOST_DRAWN + 1) || m < 1 || m > MOST_SEEDS) return NO;
        if (!within(lamp, LAMPS) || !within(eye, EYES) || !within(part, 2)) return NO;
        if (scene.sheetCount <= 0) return NO;
        light.lookAtSheets();
        int good = 0;
        for (int i = 0; i < m; i++) {
            light.pileDrawn(k, seed + i);
            if (light.shadeOf(lamp, 0, eye) >= v) good++;
        }
        return partOf(good, m, part);
    }

    public int spell(int stack) {
        if (!scene.hasStack(stack)) return NONE;
        sheetOfPaper.spellStack(scene, stack);
        return sheetOfPaper.size;
    }

    public int paper(int i) {
        return within(i, sheetOfPaper.size) ? sheetOfPaper.bytes[i] : NONE;
    }

    public int judge(int list, int lamp) {
        if (!within(list, LISTS) || !within(lamp, LAMPS)) return NONE;
        if (!lists.isHeld(list)) return NOTHING;
        light.lookAtSheets();
        for (int i = 0; i < lists.sizes[list]; i++) {
            int stack = i / EYES;
            if (!scene.hasStack(stack)) return i;
            light.pileStack(stack);
            if (light.shadeOf(lamp, 0, i % EYES) != lists.valueAt(list, i)) return i;
        }
        return NOT;
    }

    public int change(int list) {
        if (!within(list, LISTS)) return NONE;
        if (!lists.isHeld(list)) return NOTHING;
        int done = 0;
        for (int i = 0; i + ROW <= lists.sizes[list]; i += ROW) {
            int was = number(lists.valueAt(list, i), lists.valueAt(list, i + 1), lists.valueAt(list, i + 2));
            if (was >= 0) done++;
        }
        return done;
    }

    // ---- lists, the image

    public int list(int list, int n) {
        if (!within(list, LISTS)) return NONE;
        if (n > LIST_PLACES) return BAD;
        if (n < 0) return BELOW;
        lists.clearTo(list, n);
        return 1;
    }

    public int put(int list, int i, int v) {
        if (!within(list, LISTS)) return NONE;
        if (!lists.isHeld(list)) return NOTHING;
        if (!lists.hasPlace(list, i)) return BEYOND;
        lists.values[list * LIST_PLACES + i] = v;
        return 1;
    }

    public long get(int list, int i) {
        return within(list, LISTS) && lists.hasPlace(list, i) ? lists.valueAt(list, i) : NO;
    }

    public int image() {
        picture.becomeLike(scene);
        pictured = true;
        return scene.sheetCount;
    }

    public int undo() {
        if (!pictured) return STATE;
        scene.becomeLike(picture);
        return scene.sheetCount;
    }

    public int count(int what) {
        if (what == 0) return scene.sheetCount;
        if (what == 1) return scene.stackCount;
        if (what == 2) return tape.size;
        if (what == 3) return sheetOfPaper.size;
        if (what == 4) return scene.sheetsLaid();
        return within(what - 5, EYES) ? scene.wished[what - 5] : BAD;
    }

    // ---- what the calls share

    private boolean canSee(int stack, int lamp, int n) {
        return scene.hasStack(stack) && within(lamp, LAMPS) && within(n, OLDEST + 1);
    }

    private boolean looksAlike(int one, int other, int lamp) {
        light.pileStack(one);
        light.seenInto(seenFirst, lamp);
        light.pileStack(other);
        light.seenInto(seenSecond, lamp);
        for (int eye = 0; eye < EYES; eye++) {
            if (seenFirst[eye] != seenSecond[eye]) return false;
        }
        return true;
    }

    private boolean isFalsePair(int one, int other, int lamp) {
        if (!looksAlike(one, other, lamp)) return false;
        for (int by = 0; by < LAMPS; by++) {
            if (!looksAlike(one, other, by)) return true;
        }
        return false;
    }

    private long brightness(int stack, int lamp) {
        light.pileStack(stack);
        light.seenInto(seenFirst, lamp);
        long together = 0;
        for (int eye = 0; eye < EYES; eye++) together += seenFirst[eye];
        return together;
    }

    /** How many stacks are ranked ahead of this one. */
    private int brighterThan(int stack, int lamp) {
        long own = brightness(stack, lamp);
        int ahead = 0;
        for (int other = 0; other < scene.stackCount; other++) {
            long bright = brightness(other, lamp);
            if (bright > own || (bright == own && other < stack)) ahead++;
        }
        return ahead;
    }

    private boolean listTellsShades(int list, int lamp) {
        for (int eye = 0; eye < EYES; eye++) {
            if (light.shadeOf(lamp, 0, eye) != lists.valueAt(list, eye)) return false;
        }
        return true;
    }

    private static boolean within(int i, int count) {
        return i >= 0 && i < count;
    }

    /** Puts v where it belongs and answers what stood there. */
    private static int exchange(int[] row, int i, int v) {
        if (!within(i, row.length)) return NONE;
        int old = row[i];
        row[i] = v;
        return old;
    }

    /** All differences of two rows of shades, none below 0, together. */
    private static int differing(int[] one, int[] other) {
        int together = 0;
        for (int i = 0; i < one.length && i < other.length; i++) {
            together += Math.abs(one[i] - other[i]);
        }
        return together;
    }

    private static long cut(long above, long below) {
        return below > 0 ? above / below : 0;
    }

    private static long partOf(long above, long below, int part) {
        long common = greatestCommonDivisor(above, below);
        return cut(part == 0 ? above : below, common);
    }

    private static long greatestCommonDivisor(long a, long b) {
        long one = a;
        long other = b;
        // each second step halves a number at least, so a long is through within 128
        for (int i = 0; i < 128 && other > 0; i++) {
            long rest = one % other;
            one = other;
            other = rest;
        }
        return one;
    }

    private static String wordOf(int kind) {
        switch (kind) {
            case 0: return "glass";
            case 1: return "thick";
            case 2: return "smoked";
            case 3: return "mirror";
            case 4: return "dyed";
            case 5: return "clear";
            default: return "";
        }
    }

    /** All that an image holds: sheets, stacks, lamps, weights and the wish. */
    private static final class Scene {
        int sheetCount;
        final int[] kinds;
        final int[] figures;
        final int[] numbers;
        int stackCount;
        final int[] heights;
        final int[] laid;
        final int[] powers;
        final int[] weights;
        final int[] wished;

        Scene() {
            sheetCount = 0;
            kinds = new int[SHEETS];
            figures = new int[SHEETS];
            numbers = new int[SHEETS * BANDS];
            stackCount = 0;
            heights = new int[STACKS];
            laid = new int[STACKS * HEIGHT];
            powers = new int[] {9, 9, 9, 9, 9, 9, 9, 9, 9, 9, 9, 9, 9, 9, 9};
            weights = new int[] {0, 0, 1, 2, 3, 0, 1, 3, 1, 0, 4, 2, 0, 0, 0};
            wished = new int[EYES];
        }

        void becomeLike(Scene other) {
            sheetCount = other.sheetCount;
            copyRow(other.kinds, kinds);
            copyRow(other.figures, figures);
            copyRow(other.numbers, numbers);
            stackCount = other.stackCount;
            copyRow(other.heights, heights);
            copyRow(other.laid, laid);
            copyRow(other.powers, powers);
            copyRow(other.weights, weights);
            copyRow(other.wished, wished);
        }

        private static void copyRow(int[] from, int[] to) {
            for (int i = 0; i < from.length && i < to.length; i++) to[i] = from[i];
        }

        boolean hasSheet(int i) {
            return within(i, sheetCount);
        }

        boolean hasStack(int i) {
            return within(i, stackCount);
        }

        void addSheet(int kind, int figure, int[] row, int from) {
            if (sheetCount >= SHEETS || from < 0 || from + BANDS > row.length) return;
            kinds[sheetCount] = kind;
            figures[sheetCount] = figure;
            for (int band = 0; band < BANDS; band++) {
                numbers[sheetCount * BANDS + band] = row[from + band];
            }
            sheetCount++;
        }

        /** Answers the new stack's number, or FULL. */
        int addStack(int[] row, int height) {
            int stack = stackCount;
            if (stack >= STACKS) return FULL;
            heights[stack] = 0;
            stackCount++;
            for (int i = 0; i < height && i < row.length; i++) layOn(stack, row[i]);
            return stack;
        }

        boolean layOn(int stack, int sheet) {
            if (!hasStack(stack) || heights[stack] >= HEIGHT) return false;
            laid[stack * HEIGHT + heights[stack]] = sheet;
            heights[stack]++;
            return true;
        }

        int sheetAt(int stack, int place) {
            return hasStack(stack) && within(place, HEIGHT) ? laid[stack * HEIGHT + place] : NONE;
        }

        int sheetsLaid() {
            int together = 0;
            for (int stack = 0; stack < stackCount; stack++) together += heights[stack];
            return together;
        }

        /** What a sheet's numbers would let through of a band, were it of that kind and figure. */
        int letsAs(int sheet, int kind, int figure, int band) {
            if (!hasSheet(sheet) || !within(band, BANDS)) return 0;
            int own = numbers[sheet * BANDS + band];
            switch (kind) {
                case 0: return 10 * own;
                case 1: return own * own;
                case 2: return own * figure;
                case 3: return 100 - own * figure;
                case 4: return figure % BANDS == band ? 0 : own * own;
                default: return 10 * greatestNumber(sheet);
            }
        }

        private int greatestNumber(int sheet) {
            int greatest = 0;
            for (int band = 0; band < BANDS; band++) {
                greatest = Math.max(greatest, numbers[sheet * BANDS + band]);
            }
            return greatest;
        }
    }

    /**
     * One pile of sheets, laid or in thought, and what is seen of it. What the sheets let through
     * is looked up once a question, for a question may try many piles.
     */
    private static final class Light {
        final Scene scene;
        final int[] lets;
        final long[] comes;
        long whole;
        int height;

        Light(Scene seen) {
            scene = seen;
            lets = new int[SHEETS * BANDS];
            comes = new long[BANDS];
            clear();
        }

        void lookAtSheets() {
            for (int sheet = 0; sheet < scene.sheetCount; sheet++) {
                lookAtSheetAs(sheet, scene.kinds[sheet], scene.figures[sheet]);
            }
        }

        void lookAtSheetAs(int sheet, int kind, int figure) {
            if (!within(sheet, SHEETS)) return;
            for (int band = 0; band < BANDS; band++) {
                lets[sheet * BANDS + band] = scene.letsAs(sheet, kind, figure, band);
            }
        }

        void clear() {
            for (int band = 0; band < BANDS; band++) comes[band] = 1;
            whole = 1;
            height = 0;
        }

        /** Eight sheets at most, so that 100 to their number times 405 is still a long. */
        void add(int sheet) {
            if (!within(sheet, SHEETS) || height >= HEIGHT_IN_THOUGHT) return;
            for (int band = 0; band < BANDS; band++) comes[band] *= lets[sheet * BANDS + band];
            whole *= 100;
            height++;
        }

        void pileStack(int stack) {
            pileStackWithout(stack, NONE);
        }

        void pileStackWithout(int stack, int place) {
            clear();
            if (!scene.hasStack(stack)) return;
            for (int i = 0; i < scene.heights[stack]; i++) {
                if (i != place) add(scene.sheetAt(stack, i));
            }
        }

        void pileDrawn(int k, int seed) {
            clear();
            int z = seed;
            for (int i = 0; i < k; i++) {
                z = z * 1103515245 + 12345;
                int draw = (z & GREATEST_INT) / 65536;
                if (scene.sheetCount > 0) add(draw % scene.sheetCount);
            }
        }

        /** What an eye sees, in parts of wholeByAge(n). */
        long seen(int lamp, int n, int eye) {
            if (!within(lamp, LAMPS) || !within(eye, EYES)) return 0;
            long together = 0;
            for (int band = 0; band < BANDS; band++) {
                int strength = scene.powers[lamp * BANDS + band] * scene.weights[eye * BANDS + band];
                together += comes[band] * (strength * powerByAge(n, band));
            }
            return together;
        }

        /** A lamp as it is counts by ones, not by tenths: eight sheets leave no room for tenths. */
        private static int powerByAge(int n, int band) {
            if (n == 0) return 1;
            return band < FADING_BANDS ? OLDEST - n : OLDEST;
        }

        long wholeByAge(int n) {
            return n == 0 ? whole : whole * OLDEST;
        }

        int shadeOf(int lamp, int n, int eye) {
            return (int) cut(seen(lamp, n, eye), wholeByAge(n));
        }

        void shadesInto(int[] row, int lamp, int n) {
            for (int eye = 0; eye < EYES && eye < row.length; eye++) row[eye] = shadeOf(lamp, n, eye);
        }

        boolean isDark(int lamp) {
            for (int eye = 0; eye < EYES; eye++) {
                if (shadeOf(lamp, 0, eye) != 0) return false;
            }
            return true;
        }

        /** What all eyes see, as if six sheets lay there, so that piles of other heights compare. */
        void seenInto(long[] row, int lamp) {
            long lift = 1;
            for (int i = height; i < HEIGHT; i++) lift *= 100;
            for (int eye = 0; eye < EYES && eye < row.length; eye++) {
                row[eye] = seen(lamp, 0, eye) * lift;
            }
        }
    }

    /** Goes through the stacks in thought, by size, and of a size by their sheets' numbers. */
    private static final class Thought {
        /** Far above the 330 stacks that four of eight sheets make. */
        private static final int MOST_OF_A_SIZE = 1000;

        final Scene scene;
        final Light light;
        final int[] tried;
        final int[] best;
        final int[] shades;
        int bestSize;
        int bestMiss;
        int found;

        Thought(Scene seen, Light by) {
            scene = seen;
            light = by;
            tried = new int[FEWEST_HEIGHT];
            best = new int[FEWEST_HEIGHT];
            shades = new int[EYES];
            bestSize = 0;
            bestMiss = 0;
            found = 0;
        }

        void seekFewest(int lamp) {
            light.lookAtSheets();
            found = 0;
            for (int size = 0; size <= FEWEST_HEIGHT && found == 0; size++) {
                boolean more = begin(size);
                for (int i = 0; i < MOST_OF_A_SIZE && more; i++) {
                    pileTried(size);
                    if (isWished(lamp)) {
                        if (found == 0) keep(size, 0);
                        found++;
                    }
                    more = goOn(size);
                }
            }
        }

        void seekNearest(int lamp) {
            light.lookAtSheets();
            bestMiss = GREATEST_INT;
            for (int size = 0; size <= NEAREST_HEIGHT; size++) {
                boolean more = begin(size);
                for (int i = 0; i < MOST_OF_A_SIZE && more; i++) {
                    pileTried(size);
                    int miss = missOf(lamp);
                    if (miss < bestMiss) keep(size, miss);
                    more = goOn(size);
                }
            }
        }

        int bestSheet(int place) {
            return place < bestSize && within(place, best.length) ? best[place] : NOT;
        }

        private boolean begin(int size) {
            for (int i = 0; i < size && i < tried.length; i++) tried[i] = 0;
            return size == 0 || scene.sheetCount > 0;
        }

        private boolean goOn(int size) {
            int place = Math.min(size, tried.length) - 1;
            while (place >= 0 && tried[place] >= scene.sheetCount - 1) place--;
            if (place < 0) return false;
            int next = tried[place] + 1;
            for (int i = place; i < size && i < tried.length; i++) tried[i] = next;
            return true;
        }

        private void keep(int size, int miss) {
            for (int i = 0; i < size && i < best.length; i++) best[i] = tried[i];
            bestSize = size;
            bestMiss = miss;
        }

        private void pileTried(int size) {
            light.clear();
            for (int i = 0; i < size && i < tried.length; i++) light.add(tried[i]);
        }

        /** Stops at the first eye that sees another shade, as nearly all piles are not the wish. */
        private boolean isWished(int lamp) {
            for (int eye = 0; eye < EYES; eye++) {
                if (light.shadeOf(lamp, 0, eye) != scene.wished[eye]) return false;
            }
            return true;
        }

        /** By how much the shades of what is tried differ from the wish. */
        private int missOf(int lamp) {
            light.shadesInto(shades, lamp, 0);
            return differing(shades, scene.wished);
        }
    }

    /** The bytes fed, and what they tell. */
    private static final class Tape {
        private static final int FINE = -1;

        /** More than 80 bytes can tell, for a clause has 16 at least. */
        private static final int MOST_CLAUSES = 8;

        final int[] bytes;
        int size;
        int clauses;
        final int[] kinds;
        final int[] figures;
        final int[] numbers;
        int letterCount;
        final int[] letters;
        private int place;

        Tape() {
            bytes = new int[TAPE_BYTES];
            size = 0;
            clauses = 0;
            kinds = new int[MOST_CLAUSES];
            figures = new int[MOST_CLAUSES];
            numbers = new int[MOST_CLAUSES * BANDS];
            letterCount = 0;
            letters = new int[HEIGHT];
            place = 0;
        }

        boolean append(int letter) {
            if (size >= TAPE_BYTES) return false;
            bytes[size] = letter;
            size++;
            return true;
        }

        private int byteAt(int i) {
            return i < size && within(i, TAPE_BYTES) ? bytes[i] : NONE;
        }

        /** The fault's place, or FINE. */
        int readStack(int sheetCount) {
            letterCount = 0;
            if (byteAt(0) == '-') return size == 1 ? FINE : 1;
            for (int i = 0; i < size; i++) {
                int sheet = byteAt(i) - 'a';
                if (i >= HEIGHT || !within(sheet, sheetCount)) return i;
                letters[i] = sheet;
                letterCount = i + 1;
            }
            return size == 0 ? 0 : FINE;
        }

        /** The fault's place, or FINE. */
        int readSheets() {
            place = 0;
            clauses = 0;
            boolean more = true;
            for (int i = 0; i < MOST_CLAUSES && more; i++) {
                if (!readClause()) return place;
                more = pass(';');
            }
            return place < size ? place : FINE;
        }

        /** Where it is false, the place is the fault's. */
        private boolean readClause() {
            if (clauses >= MOST_CLAUSES) return false;
            int kind = readWord();
            if (kind < 0 || !pass(' ')) return false;
            int figure = readFigure();
            if (figure < 0 || !pass(' ')) return false;
            for (int band = 0; band < BANDS; band++) {
                if (band > 0 && !pass(',')) return false;
                int number = readNumber();
                if (number < 0) return false;
                numbers[clauses * BANDS + band] = number;
            }
            kinds[clauses] = kind;
            figures[clauses] = figure;
            clauses++;
            return true;
        }

        private boolean pass(int sign) {
            if (byteAt(place) != sign) return false;
            place++;
            return true;
        }

        private int readFigure() {
            int figure = byteAt(place) - '0';
            if (!within(figure, FIGURES)) return NONE;
            place++;
            return figure;
        }

        private int readNumber() {
            int figure = readFigure();
            return figure == 1 && pass('0') ? MOST_NUMBER : figure;
        }

        /** The kind of the word that stands there; of a word that is none the place stays. */
        private int readWord() {
            int end = place;
            while (end < size && within(byteAt(end) - 'a', 26)) end++;
            for (int kind = 0; kind < KINDS; kind++) {
                if (spells(wordOf(kind), end)) {
                    place = end;
                    return kind;
                }
            }
            return NONE;
        }

        private boolean spells(String word, int end) {
            if (word.length() != end - place) return false;
            for (int i = 0; i < word.length(); i++) {
                if (byteAt(place + i) != word.charAt(i)) return false;
            }
            return true;
        }
    }

    /** The latest stack spelled. */
    private static final class Paper {
        /** Six words of six letters, each with its figure, and five signs between them. */
        private static final int MOST_BYTES = 47;

        final int[] bytes;
        int size;

        Paper() {
            bytes = new int[MOST_BYTES];
            size = 0;
        }

        void spellStack(Scene scene, int stack) {
            size = 0;
            if (!scene.hasStack(stack)) return;
            if (scene.heights[stack] == 0) write('-');
            for (int i = 0; i < scene.heights[stack]; i++) {
                if (i > 0) write('/');
                spellSheet(scene, scene.sheetAt(stack, i));
            }
        }

        private void spellSheet(Scene scene, int sheet) {
            if (!scene.hasSheet(sheet)) return;
            String word = wordOf(scene.kinds[sheet]);
            for (int i = 0; i < word.length(); i++) write(word.charAt(i));
            write('0' + scene.figures[sheet]);
        }

        private void write(int sign) {
            if (size >= MOST_BYTES) return;
            bytes[size] = sign;
            size++;
        }
    }

    /** Four rows of told numbers; a size of -1 says that none is held. */
    private static final class Lists {
        final int[] values;
        final int[] sizes;

        Lists() {
            values = new int[LISTS * LIST_PLACES];
            sizes = new int[] {-1, -1, -1, -1};
        }

        boolean isHeld(int list) {
            return within(list, LISTS) && sizes[list] >= 0;
        }

        boolean hasPlace(int list, int i) {
            return isHeld(list) && within(i, sizes[list]) && i < LIST_PLACES;
        }

        int valueAt(int list, int i) {
            return hasPlace(list, i) ? values[list * LIST_PLACES + i] : 0;
        }

        void clearTo(int list, int n) {
            if (!within(list, LISTS) || n < 0 || n > LIST_PLACES) return;
            for (int i = 0; i < n; i++) values[list * LIST_PLACES + i] = 0;
            sizes[list] = n;
        }
    }
}
