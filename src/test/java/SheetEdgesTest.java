/**
 * Promises 4 to 6 and 8 to 12 at their edges: a test for each sentence of the document that names one.
 * The sentence stands above its test.
 */
public final class SheetEdgesTest {
    private static final Check CHECK = new Check("SheetEdgesTest");

    private static void due(String call, long got, long want) {
        CHECK.due(call, got, want);
    }

    public static void main(String[] args) {
        numberOfSuchSheetAndBand();
        numberTooSmallOrLarge();
        numberOfFirstAndLast();
        becomesOfSuchSheetAndKind();
        becomesTooSmallOrLarge();
        becomesLeastAndMost();
        sheetOfSuchSheetAndWhat();
        glassLetsByItsNumber();
        thickLetsByTheSquare();
        smokedLetsByItsFigure();
        mirrorLetsTheRest();
        dyedLetsNoneOfOneBand();
        clearLetsByItsGreatest();
        eachLetsByItsOwnNumbers();
        laySuchStackAndSheet();
        layUpToSix();
        layTheSameOne();
        takeOfSuchStack();
        takeDownToNone();
        atSuchStackAndPlace();
        atMinusOne();
        powerOfSuchLampAndBand();
        powerTooSmallOrLarge();
        powerOfEachItsOwn();
        weightOfSuchEyeAndBand();
        weightTooSmallOrLarge();
        weightOfEachItsOwn();
        CHECK.done();
    }

    private static ColourStacks withSheets(int count) {
        ColourStacks x = new ColourStacks();
        Check.clearSheets(x, count);
        return x;
    }

    // ---- promise 4

    /** "NONE: sheet, band; BAD": what is named first is answered first. */
    private static void numberOfSuchSheetAndBand() {
        ColourStacks x = withSheets(2);
        CHECK.refused("4 sheet", 2, Check.NONE, i -> x.number(i, 0, 0));
        CHECK.refused("4 band", 5, Check.NONE, i -> x.number(1, i, 0));
        CHECK.refused("4 sheet ahead of a bad number", 2, Check.NONE, i -> x.number(i, 0, 11));
        CHECK.refused("4 band ahead of a bad number", 5, Check.NONE, i -> x.number(1, i, -1));
        for (int sheet = 0; sheet < 2; sheet++) {
            for (int band = 0; band < 5; band++) due("4 as it was", x.sheet(sheet, 10 + band), 10);
        }
    }

    /** "a NUMBER (0 .. 10)"; "BAD". */
    private static void numberTooSmallOrLarge() {
        ColourStacks x = withSheets(1);
        for (int v = 0; v <= 10; v++) due("4 becomes " + v, x.number(0, 3, v), v == 0 ? 10 : v - 1);
        CHECK.refused("4 no number", 11, Check.BAD, v -> x.number(0, 3, v));
        due("4 it stays", x.sheet(0, 13), 10);
        due("4 the greatest once more", x.number(0, 3, 10), 10);
        due("4 the least", x.number(0, 3, 0), 10);
        due("4 the least once more", x.number(0, 3, 0), 0);
    }

    /** "SHEETS 0 .. 7"; "BANDS 0 .. 4": the last of all. */
    private static void numberOfFirstAndLast() {
        ColourStacks x = withSheets(8);
        due("4 first band of the first", x.number(0, 0, 1), 10);
        due("4 last band of the last", x.number(7, 4, 2), 10);
        for (int sheet = 0; sheet < 8; sheet++) {
            for (int band = 0; band < 5; band++) {
                int want = sheet == 0 && band == 0 ? 1 : sheet == 7 && band == 4 ? 2 : 10;
                due("4 number " + sheet + band, x.sheet(sheet, 10 + band), want);
            }
        }
        due("4 no ninth", x.number(8, 0, 0), Check.NONE);
    }

    // ---- promise 5

    /** "NONE: sheet, kind; BAD": what is named first is answered first. */
    private static void becomesOfSuchSheetAndKind() {
        ColourStacks x = withSheets(2);
        CHECK.refused("5 sheet", 2, Check.NONE, i -> x.becomes(i, 0, 0));
        CHECK.refused("5 kind", 6, Check.NONE, i -> x.becomes(0, i, 0));
        CHECK.refused("5 sheet ahead of a bad figure", 2, Check.NONE, i -> x.becomes(i, 0, 10));
        CHECK.refused("5 kind ahead of a bad figure", 6, Check.NONE, i -> x.becomes(0, i, -1));
        due("5 as it was", x.sheet(0, 0) + x.sheet(0, 1) + x.sheet(1, 0) + x.sheet(1, 1), 0);
    }

    /** "a FIGURE (0 .. 9)"; "BAD". */
    private static void becomesTooSmallOrLarge() {
        ColourStacks x = withSheets(1);
        for (int figure = 0; figure <= 9; figure++) {
            due("5 figure " + figure, x.becomes(0, 5, figure), figure == 0 ? 0 : 50 + figure - 1);
        }
        CHECK.refused("5 no figure", 10, Check.BAD, v -> x.becomes(0, 1, v));
        due("5 its kind stays", x.sheet(0, 0), 5);
        due("5 its figure stays", x.sheet(0, 1), 9);
    }

    /** "10 times the KIND and the FIGURE that were". */
    private static void becomesLeastAndMost() {
        ColourStacks x = withSheets(8);
        for (int kind = 0; kind < 6; kind++) due("5 kind " + kind, x.becomes(7, kind, 9), kind == 0 ? 0 : 10 * kind - 1);
        due("5 the most", x.becomes(7, 5, 9), 59);
        due("5 the same again", x.becomes(7, 0, 0), 59);
        due("5 the least", x.becomes(7, 0, 0), 0);
        due("5 another stays", x.becomes(6, 0, 0), 0);
        due("5 no ninth", x.becomes(8, 0, 0), Check.NONE);
        due("5 its numbers stay", x.sheet(7, 14), 10);
    }

    // ---- promise 6

    /** "0 KIND, 1 FIGURE, 10 .. 14 NUMBERS, 20 .. 24 what it LETS through of. NONE." */
    private static void sheetOfSuchSheetAndWhat() {
        ColourStacks x = new ColourStacks();
        Check.sheets(x, "clear 7 1,2,3,4,5;smoked 6 5,4,3,2,1");
        int[] first = {5, 7, 1, 2, 3, 4, 5, 50, 50, 50, 50, 50};
        int[] second = {2, 6, 5, 4, 3, 2, 1, 30, 24, 18, 12, 6};
        int[] whats = {0, 1, 10, 11, 12, 13, 14, 20, 21, 22, 23, 24};
        for (int i = 0; i < whats.length; i++) {
            due("6 what " + whats[i], x.sheet(0, whats[i]), first[i]);
            due("6 of the second what " + whats[i], x.sheet(1, whats[i]), second[i]);
        }
        for (int what : new int[] {-1, 2, 3, 9, 15, 16, 19, 25, 30, 100, Integer.MIN_VALUE, Integer.MIN_VALUE + 9,
            Integer.MIN_VALUE + 19, Integer.MAX_VALUE}) {
            due("6 no what " + what, x.sheet(0, what), Check.NONE);
        }
        for (int what : new int[] {0, 1, 10, 24, 25}) {
            CHECK.refused("6 sheet, what " + what, 2, Check.NONE, i -> x.sheet(i, what));
        }
    }

    private static void lets(String call, ColourStacks x, int... want) {
        for (int band = 0; band < 5; band++) due(call + " of band " + band, x.sheet(0, 20 + band), want[band]);
    }

    private static ColourStacks oneSheet(String clause) {
        ColourStacks x = new ColourStacks();
        Check.sheets(x, clause);
        return x;
    }

    /** "KIND 0 glass: 10 times its NUMBER": 0 and 10 are its edges; its FIGURE is nothing to it. */
    private static void glassLetsByItsNumber() {
        lets("6 glass", oneSheet("glass 9 0,10,1,9,5"), 0, 100, 10, 90, 50);
        lets("6 glass 0", oneSheet("glass 0 0,10,1,9,5"), 0, 100, 10, 90, 50);
    }

    /** "1 thick, under glass: its NUMBER times itself". */
    private static void thickLetsByTheSquare() {
        lets("6 thick", oneSheet("thick 9 0,10,1,9,5"), 0, 100, 1, 81, 25);
        lets("6 thick 0", oneSheet("thick 0 0,10,1,9,5"), 0, 100, 1, 81, 25);
    }

    /** "2 smoked, under glass: its NUMBER times FIGURE": FIGURE 0 and 9, NUMBER 0 and 10. */
    private static void smokedLetsByItsFigure() {
        lets("6 smoked 0", oneSheet("smoked 0 0,10,1,9,5"), 0, 0, 0, 0, 0);
        lets("6 smoked 1", oneSheet("smoked 1 0,10,1,9,5"), 0, 10, 1, 9, 5);
        lets("6 smoked 9", oneSheet("smoked 9 0,10,1,9,5"), 0, 90, 9, 81, 45);
    }

    /** "3 mirror, under smoked: 100 less what a smoked one LETS". */
    private static void mirrorLetsTheRest() {
        lets("6 mirror 0", oneSheet("mirror 0 0,10,1,9,5"), 100, 100, 100, 100, 100);
        lets("6 mirror 1", oneSheet("mirror 1 0,10,1,9,5"), 100, 90, 99, 91, 95);
        lets("6 mirror 9", oneSheet("mirror 9 0,10,1,9,5"), 100, 10, 91, 19, 55);
    }

    /** "4 dyed, under thick: as a thick one, but 0 of BAND FIGURE modulo 5": 5 is as 0, 9 as 4. */
    private static void dyedLetsNoneOfOneBand() {
        for (int figure = 0; figure <= 9; figure++) {
            int[] want = {4, 9, 16, 25, 100};
            want[figure < 5 ? figure : figure - 5] = 0;
            lets("6 dyed " + figure, oneSheet("dyed " + figure + " 2,3,4,5,10"), want);
        }
        lets("6 dyed of 0", oneSheet("dyed 5 0,0,0,0,0"), 0, 0, 0, 0, 0);
    }

    /** "5 clear, under glass: the greatest of its NUMBERS, 10 times, of all BANDS." */
    private static void clearLetsByItsGreatest() {
        for (int band = 0; band < 5; band++) {
            ColourStacks x = oneSheet("clear 5 6,6,6,6,6");
            x.number(0, band, 10);
            lets("6 clear, greatest at " + band, x, 100, 100, 100, 100, 100);
            x.number(0, band, 7);
            lets("6 clear, a little greater at " + band, x, 70, 70, 70, 70, 70);
            x.number(0, band, 0);
            lets("6 clear, least at " + band, x, 60, 60, 60, 60, 60);
        }
        lets("6 clear of 0", oneSheet("clear 9 0,0,0,0,0"), 0, 0, 0, 0, 0);
        lets("6 clear of 1", oneSheet("clear 0 0,0,1,0,0"), 10, 10, 10, 10, 10);
    }

    /** "SHEETS 0 .. 7 .. have .. of each BAND a NUMBER": the last of eight lets by its own, too. */
    private static void eachLetsByItsOwnNumbers() {
        int[][] want = {{70, 20, 30, 40, 50}, {49, 4, 9, 16, 25}, {42, 12, 18, 24, 30}, {58, 88, 82, 76, 70},
            {49, 0, 9, 16, 25}, {70, 70, 70, 70, 70}};
        for (int sheet = 0; sheet < 8; sheet++) {
            ColourStacks x = withSheets(8);
            int[] numbers = {7, 2, 3, 4, 5};
            for (int band = 0; band < 5; band++) x.number(sheet, band, numbers[band]);
            for (int kind = 0; kind < 6; kind++) {
                x.becomes(sheet, kind, 6);
                for (int band = 0; band < 5; band++) {
                    due("6 sheet " + sheet + " of kind " + kind, x.sheet(sheet, 20 + band), want[kind][band]);
                }
            }
        }
    }

    // ---- promise 8

    /** "NONE: stack, sheet; FULL". */
    private static void laySuchStackAndSheet() {
        ColourStacks x = withSheets(2);
        Check.stack(x, "-");
        Check.stack(x, "aaaaaa");
        CHECK.refused("8 stack", 2, Check.NONE, i -> x.lay(i, 0));
        CHECK.refused("8 sheet", 2, Check.NONE, i -> x.lay(0, i));
        CHECK.refused("8 sheet ahead of FULL", 2, Check.NONE, i -> x.lay(1, i));
        due("8 nothing laid", x.count(4), 6);
        ColourStacks none = new ColourStacks();
        Check.stack(none, "-");
        due("8 there are no sheets", none.lay(0, 0), Check.NONE);
    }

    /** "FULL: six": the sixth comes, the seventh doesn't. */
    private static void layUpToSix() {
        ColourStacks x = withSheets(8);
        Check.emptyStacks(x, 6);
        for (int i = 1; i <= 6; i++) due("8 sheet " + i, x.lay(5, 8 - i), i);
        due("8 the seventh", x.lay(5, 0), Check.FULL);
        due("8 still six", x.at(5, -1), 6);
        for (int i = 0; i < 6; i++) due("8 as laid " + i, x.at(5, i), 7 - i);
        for (int stack = 0; stack < 5; stack++) due("8 other stacks " + stack, x.at(stack, -1), 0);
        due("8 taken off", x.take(5), 2);
        due("8 the sixth again", x.lay(5, 0), 6);
        due("8 and full again", x.lay(5, 0), Check.FULL);
        due("8 first stack", x.lay(0, 7), 1);
    }

    /** "(the same one as often as may be)". */
    private static void layTheSameOne() {
        ColourStacks x = withSheets(2);
        Check.emptyStacks(x, 2);
        for (int i = 1; i <= 6; i++) {
            due("8 the same one", x.lay(0, 1), i);
            due("8 the same one on another, too", x.lay(1, 1), i);
        }
        due("8 twelve times in all", x.count(4), 12);
    }

    // ---- promise 9

    /** "NONE". */
    private static void takeOfSuchStack() {
        ColourStacks x = withSheets(1);
        Check.stack(x, "a");
        Check.stack(x, "aa");
        CHECK.refused("9 stack", 2, Check.NONE, x::take);
        due("9 nothing taken", x.count(4), 3);
    }

    /** "STATE: it has none": the last is taken yet, and nothing behind it. */
    private static void takeDownToNone() {
        ColourStacks x = withSheets(6);
        Check.stack(x, "fedcba");
        Check.stack(x, "b");
        for (int i = 0; i < 6; i++) {
            due("9 uppermost", x.take(0), i);
            due("9 left", x.at(0, -1), 5 - i);
        }
        due("9 it has none", x.take(0), Check.STATE);
        due("9 it has none still", x.take(0), Check.STATE);
        due("9 left none", x.at(0, -1), 0);
        due("9 the stack stays", x.count(1), 2);
        due("9 the other one's", x.take(1), 1);
        due("9 told without any", Check.stack(x, "-"), 2);
        due("9 of that", x.take(2), Check.STATE);
        due("9 NONE is no STATE", x.take(3), Check.NONE);
        due("9 laid anew", x.lay(0, 5), 1);
        due("9 taken anew", x.take(0), 5);
    }

    // ---- promise 10

    /** "The SHEET at a place of a STACK (from 0, the lowest ..). NONE." */
    private static void atSuchStackAndPlace() {
        ColourStacks x = withSheets(8);
        Check.stack(x, "hgfedc");
        Check.stack(x, "ba");
        for (int place = 0; place < 6; place++) due("10 place " + place, x.at(0, place), 7 - place);
        due("10 lowest of the second", x.at(1, 0), 1);
        due("10 uppermost of the second", x.at(1, 1), 0);
        for (int place : new int[] {-2, 6, Integer.MIN_VALUE, Integer.MAX_VALUE}) {
            due("10 no place " + place, x.at(0, place), Check.NONE);
        }
        due("10 just above", x.at(1, 2), Check.NONE);
        CHECK.refused("10 stack", 2, Check.NONE, i -> x.at(i, 0));
        CHECK.refused("10 stack, how many", 2, Check.NONE, i -> x.at(i, -1));
        x.take(1);
        due("10 where one was taken", x.at(1, 1), Check.NONE);
        due("10 the lowest stays", x.at(1, 0), 1);
    }

    /** "(.. place -1: how many)": 0 to 6. */
    private static void atMinusOne() {
        ColourStacks x = withSheets(1);
        Check.stack(x, "-");
        due("10 none", x.at(0, -1), 0);
        due("10 none at the lowest place", x.at(0, 0), Check.NONE);
        for (int i = 1; i <= 6; i++) {
            x.lay(0, 0);
            due("10 how many", x.at(0, -1), i);
            due("10 the uppermost", x.at(0, i - 1), 0);
            due("10 above it", x.at(0, i), Check.NONE);
        }
    }

    // ---- promises 11, 12

    /** "NONE: lamp, band; BAD". */
    private static void powerOfSuchLampAndBand() {
        ColourStacks x = new ColourStacks();
        CHECK.refused("11 lamp", 3, Check.NONE, i -> x.power(i, 0, 0));
        CHECK.refused("11 band", 5, Check.NONE, i -> x.power(2, i, 0));
        CHECK.refused("11 lamp ahead of a bad power", 3, Check.NONE, i -> x.power(i, 0, 10));
        CHECK.refused("11 band ahead of a bad power", 5, Check.NONE, i -> x.power(0, i, -1));
        for (int i = 0; i < 15; i++) due("11 as it was " + i, x.power(i / 5, i % 5, 9), 9);
    }

    /** "a POWER (0 .. 9; ..)"; "BAD". */
    private static void powerTooSmallOrLarge() {
        ColourStacks x = new ColourStacks();
        for (int v = 0; v <= 9; v++) due("11 becomes " + v, x.power(1, 2, v), v == 0 ? 9 : v - 1);
        CHECK.refused("11 no power", 10, Check.BAD, v -> x.power(1, 2, v));
        due("11 it stays", x.power(1, 2, 0), 9);
        CHECK.refused("11 no power at 0", 10, Check.BAD, v -> x.power(1, 2, v));
        due("11 it stays 0", x.power(1, 2, 9), 0);
    }

    /** "LAMPS 0 .. 2 have of each BAND a POWER". */
    private static void powerOfEachItsOwn() {
        ColourStacks x = new ColourStacks();
        for (int i = 0; i < 15; i++) due("11 power " + i, x.power(i / 5, i % 5, i % 9), 9);
        for (int i = 0; i < 15; i++) due("11 its own " + i, x.power(i / 5, i % 5, 9), i % 9);
        int[] weights = {0, 0, 1, 2, 3, 0, 1, 3, 1, 0, 4, 2, 0, 0, 0};
        for (int i = 0; i < 15; i++) due("11 no weight " + i, x.weight(i / 5, i % 5, 9), weights[i]);
    }

    /** "NONE: eye, band; BAD". */
    private static void weightOfSuchEyeAndBand() {
        ColourStacks x = new ColourStacks();
        CHECK.refused("12 eye", 3, Check.NONE, i -> x.weight(i, 0, 0));
        CHECK.refused("12 band", 5, Check.NONE, i -> x.weight(2, i, 0));
        CHECK.refused("12 eye ahead of a bad weight", 3, Check.NONE, i -> x.weight(i, 0, 10));
        CHECK.refused("12 band ahead of a bad weight", 5, Check.NONE, i -> x.weight(0, i, -1));
        int[] weights = {0, 0, 1, 2, 3, 0, 1, 3, 1, 0, 4, 2, 0, 0, 0};
        for (int i = 0; i < 15; i++) due("12 as it was " + i, x.weight(i / 5, i % 5, 9), weights[i]);
    }

    /** "a WEIGHT (0 .. 9)"; "BAD". */
    private static void weightTooSmallOrLarge() {
        ColourStacks x = new ColourStacks();
        for (int v = 0; v <= 9; v++) due("12 becomes " + v, x.weight(2, 0, v), v == 0 ? 4 : v - 1);
        CHECK.refused("12 no weight", 10, Check.BAD, v -> x.weight(2, 0, v));
        due("12 it stays", x.weight(2, 0, 0), 9);
        CHECK.refused("12 no weight at 0", 10, Check.BAD, v -> x.weight(2, 0, v));
        due("12 it stays 0", x.weight(2, 0, 9), 0);
    }

    /** "EYES 0 RED, 1 GREEN, 2 BLUE have of each BAND a WEIGHT". */
    private static void weightOfEachItsOwn() {
        ColourStacks x = new ColourStacks();
        int[] weights = {0, 0, 1, 2, 3, 0, 1, 3, 1, 0, 4, 2, 0, 0, 0};
        for (int i = 0; i < 15; i++) due("12 weight " + i, x.weight(i / 5, i % 5, 9 - i % 9), weights[i]);
        for (int i = 0; i < 15; i++) due("12 its own " + i, x.weight(i / 5, i % 5, 0), 9 - i % 9);
        for (int i = 0; i < 15; i++) due("12 no power " + i, x.power(i / 5, i % 5, 9), 9);
    }
}
