/**
 * Promises 31 to 36 at their edges: a test for each sentence of the document that names one. The sentence
 * stands above its test.
 */
public final class ListEdgesTest {
    private static final Check CHECK = new Check("ListEdgesTest");

    private static void due(String call, long got, long want) {
        CHECK.due(call, got, want);
    }

    public static void main(String[] args) {
        constants();
        listSuchList();
        listOfNoneToEighteen();
        listAboveEighteen();
        listBelowNone();
        listAllZero();
        listEachItsOwn();
        putSuchListAndPlace();
        putNothing();
        putBeyond();
        putAnyInt();
        getSuchListAndPlace();
        imageOfNoneToEight();
        undoWithoutImage();
        undoFromFullToNone();
        undoFromNoneToFull();
        undoBringsBackWhatLies();
        undoTakesTheLatest();
        undoLeavesTheImageAlone();
        undoBringsBackEach();
        undoLeavesOut();
        countSuchWhat();
        countAtFirst();
        countTheMost();
        CHECK.done();
    }

    private static ColourStacks with(String clauses, String... stacks) {
        ColourStacks x = new ColourStacks();
        Check.sheets(x, clauses);
        for (String stack : stacks) Check.stack(x, stack);
        return x;
    }

    /** The public face: "NONE = -1, BAD = -2, STATE = -3, FULL = -4, NOT = -5"; "NO = Long.MIN_VALUE". */
    private static void constants() {
        due("NONE", ColourStacks.NONE, -1);
        due("BAD", ColourStacks.BAD, -2);
        due("STATE", ColourStacks.STATE, -3);
        due("FULL", ColourStacks.FULL, -4);
        due("NOT", ColourStacks.NOT, -5);
        due("NO", ColourStacks.NO, -9223372036854775808L);
    }

    // ---- promise 31

    /** "NONE: list; BAD: n above 18; BELOW": what is named first is answered first. */
    private static void listSuchList() {
        ColourStacks x = new ColourStacks();
        for (int n : new int[] {0, 1, 18, 19, -1, Integer.MIN_VALUE, Integer.MAX_VALUE}) {
            CHECK.refused("31 list, n " + n, 4, Check.NONE, i -> x.list(i, n));
        }
        for (int list = 0; list < 4; list++) {
            due("31 nothing there yet " + list, x.put(list, 0, 0), Check.NOTHING);
            due("31 list " + list, x.list(list, 1), 1);
            due("31 it is there " + list, x.put(list, 0, 0), 1);
        }
    }

    /** "a row of 0 .. 18 ints": each n. */
    private static void listOfNoneToEighteen() {
        ColourStacks x = new ColourStacks();
        for (int n = 0; n <= 18; n++) {
            due("31 of " + n, x.list(2, n), 1);
            due("31 last of " + n, x.get(2, n - 1), n == 0 ? Check.NO : 0);
            due("31 behind the last of " + n, x.get(2, n), Check.NO);
            due("31 nothing goes behind " + n, x.put(2, n, 1), Check.BEYOND);
        }
        for (int n = 18; n >= 0; n--) {
            due("31 of " + n + " again", x.list(2, n), 1);
            due("31 behind the last of " + n + " again", x.get(2, n), Check.NO);
        }
    }

    /** "BAD: n above 18". */
    private static void listAboveEighteen() {
        ColourStacks x = new ColourStacks();
        for (int n : new int[] {19, 20, 36, 72, Integer.MAX_VALUE}) {
            due("31 nothing yet, " + n, x.list(0, n), Check.BAD);
            due("31 still nothing, " + n, x.put(0, 0, 0), Check.NOTHING);
        }
        Check.tell(x, 0, 7);
        due("31 too many", x.list(0, 19), Check.BAD);
        due("31 the row stays", x.get(0, 0), 7);
        due("31 as long as it was", x.get(0, 1), Check.NO);
    }

    /** "BELOW (-14): a size below 0". */
    private static void listBelowNone() {
        ColourStacks x = new ColourStacks();
        for (int n : new int[] {-1, -2, -18, Integer.MIN_VALUE}) {
            due("31 nothing yet, " + n, x.list(3, n), Check.BELOW);
            due("31 still nothing, " + n, x.put(3, 0, 0), Check.NOTHING);
        }
        Check.tell(x, 3, 7);
        due("31 below none", x.list(3, -1), Check.BELOW);
        due("31 the row stays", x.get(3, 0), 7);
    }

    /** "becomes a row of n ints, all 0". */
    private static void listAllZero() {
        ColourStacks x = new ColourStacks();
        x.list(1, 18);
        for (int i = 0; i < 18; i++) x.put(1, i, i + 1);
        due("31 as many again", x.list(1, 18), 1);
        for (int i = 0; i < 18; i++) due("31 all 0, " + i, x.get(1, i), 0);
        for (int i = 0; i < 18; i++) x.put(1, i, -i - 1);
        due("31 fewer", x.list(1, 3), 1);
        for (int i = 0; i < 3; i++) due("31 fewer, all 0, " + i, x.get(1, i), 0);
        due("31 more", x.list(1, 18), 1);
        for (int i = 0; i < 18; i++) due("31 more, all 0, " + i, x.get(1, i), 0);
    }

    /** "LISTS 0 .. 3". */
    private static void listEachItsOwn() {
        ColourStacks x = new ColourStacks();
        for (int list = 0; list < 4; list++) x.list(list, 18);
        for (int list = 0; list < 4; list++) for (int i = 0; i < 18; i++) x.put(list, i, 100 * list + i);
        for (int list = 0; list < 4; list++) for (int i = 0; i < 18; i++) due("33 " + list + " " + i, x.get(list, i), 100 * list + i);
        x.list(1, 18);
        for (int list = 0; list < 4; list++) {
            due("31 first of " + list, x.get(list, 0), list == 1 ? 0 : 100 * list);
            due("31 last of " + list, x.get(list, 17), list == 1 ? 0 : 100 * list + 17);
        }
    }

    // ---- promises 32, 33

    /** "NONE; NOTHING; BEYOND": what is named first is answered first. */
    private static void putSuchListAndPlace() {
        ColourStacks x = new ColourStacks();
        for (int i : new int[] {0, 17, 18, -1}) CHECK.refused("32 list", 4, Check.NONE, list -> x.put(list, i, 1));
        x.list(0, 18);
        for (int i : new int[] {0, 17, 18, -1}) CHECK.refused("32 list now", 4, Check.NONE, list -> x.put(list, i, 1));
        for (int i = 0; i < 18; i++) due("32 place " + i, x.put(0, i, 18 - i), 1);
        for (int i = 0; i < 18; i++) due("33 place " + i, x.get(0, i), 18 - i);
    }

    /** "NOTHING (-11): none is held". */
    private static void putNothing() {
        ColourStacks x = new ColourStacks();
        for (int list = 0; list < 4; list++) {
            int asked = list;
            due("32 nothing", x.put(list, 0, 1), Check.NOTHING);
            CHECK.refused("32 nothing ahead of beyond", 18, Check.NOTHING, i -> x.put(asked, i, 1));
        }
        x.list(2, 0);
        due("32 an empty row is held", x.put(2, 0, 1), Check.BEYOND);
        due("32 another isn't", x.put(1, 0, 1), Check.NOTHING);
    }

    /** "BEYOND (-13): no such place". */
    private static void putBeyond() {
        ColourStacks x = new ColourStacks();
        for (int n : new int[] {0, 1, 5, 17, 18}) {
            x.list(1, n);
            x.list(2, 18);
            CHECK.refused("32 beyond " + n, n, Check.BEYOND, i -> x.put(1, i, 9));
            if (n > 0) {
                due("32 first of " + n, x.put(1, 0, 3), 1);
                due("32 last of " + n, x.put(1, n - 1, 4), 1);
                due("33 last of " + n, x.get(1, n - 1), 4);
            }
            due("32 the next list", x.get(2, 0), 0);
        }
    }

    /** "Place i of a LIST becomes v: 1": any int, the least and the greatest. */
    private static void putAnyInt() {
        ColourStacks x = new ColourStacks();
        x.list(0, 2);
        for (int v : new int[] {Integer.MIN_VALUE, Integer.MIN_VALUE + 1, -1, 0, 1, Integer.MAX_VALUE}) {
            due("32 becomes " + v, x.put(0, 1, v), 1);
            due("33 it is " + v, x.get(0, 1), v);
            due("33 the other stays", x.get(0, 0), 0);
        }
    }

    /** "NO: no such LIST, nothing there, no such place." */
    private static void getSuchListAndPlace() {
        ColourStacks x = new ColourStacks();
        for (int list = 0; list < 4; list++) due("33 nothing there " + list, x.get(list, 0), Check.NO);
        x.list(0, 0);
        CHECK.refused("33 place of none", 0, Check.NO, i -> x.get(0, i));
        x.list(3, 18);
        CHECK.refused("33 list", 4, Check.NO, i -> x.get(i, 0));
        CHECK.refused("33 place of eighteen", 18, Check.NO, i -> x.get(3, i));
        due("33 first", x.get(3, 0), 0);
        due("33 last", x.get(3, 17), 0);
        due("33 the next has nothing", x.get(2, 0), Check.NO);
    }

    // ---- promises 34, 35

    /** "THE IMAGE is taken: how many SHEETS": 0 to 8. */
    private static void imageOfNoneToEight() {
        ColourStacks x = new ColourStacks();
        for (int i = 0; i <= 8; i++) {
            due("34 of " + i, x.image(), i);
            due("35 of " + i, x.undo(), i);
            if (i < 8) Check.sheets(x, Check.even("dyed", i, i));
        }
    }

    /** "STATE: there is none." */
    private static void undoWithoutImage() {
        ColourStacks x = with("glass 0 5,5,5,5,5", "a");
        due("35 none yet", x.undo(), Check.STATE);
        due("35 the sheet stays", x.count(0), 1);
        due("35 the stack stays", x.at(0, 0), 0);
        due("35 none still", x.undo(), Check.STATE);
        due("34 taken", x.image(), 1);
        due("35 there is one", x.undo(), 1);
    }

    private static ColourStacks full() {
        ColourStacks x = new ColourStacks();
        for (int i = 0; i < 8; i++) Check.sheets(x, "dyed " + i + " 1,1,1,1," + i);
        Check.emptyStacks(x, 5);
        Check.stack(x, "hgfedc");
        return x;
    }

    /** "All is as THE IMAGE": what came behind it is gone, the last SHEET and STACK, too. */
    private static void undoFromFullToNone() {
        ColourStacks x = new ColourStacks();
        due("34 of a new one", x.image(), 0);
        for (int i = 0; i < 8; i++) Check.sheets(x, "dyed " + i + " 1,1,1,1," + i);
        Check.emptyStacks(x, 5);
        Check.stack(x, "hgfedc");
        due("35 to none", x.undo(), 0);
        for (int what = 0; what < 8; what++) due("35 count " + what, x.count(what), 0);
        due("35 no sheet", x.sheet(0, 0), Check.NONE);
        due("35 no stack", x.at(0, -1), Check.NONE);
        due("35 no letter", Check.stack(x, "a"), -100);
        due("35 the first stack", Check.stack(x, "-"), 0);
        due("35 it has none", x.at(0, -1), 0);
        due("35 the first sheet", Check.sheets(x, "clear 9 2,2,2,2,2"), 1);
    }

    /** "All is as THE IMAGE": eight SHEETS, six STACKS and all that lies on them. */
    private static void undoFromNoneToFull() {
        ColourStacks x = full();
        due("34 of a full one", x.image(), 8);
        for (int i = 0; i < 6; i++) x.take(5);
        for (int sheet = 0; sheet < 8; sheet++) {
            x.number(sheet, 4, 10);
            x.becomes(sheet, 1, 9);
        }
        x.lay(0, 0);
        due("35 to full", x.undo(), 8);
        for (int sheet = 0; sheet < 8; sheet++) {
            due("35 kind of " + sheet, x.sheet(sheet, 0), 4);
            due("35 figure of " + sheet, x.sheet(sheet, 1), sheet);
            due("35 number of " + sheet, x.sheet(sheet, 14), sheet);
        }
        for (int place = 0; place < 6; place++) due("35 place " + place, x.at(5, place), 7 - place);
        due("35 the first has none", x.at(0, -1), 0);
        due("35 no ninth", Check.sheets(x, "dyed 1 1,1,1,1,1"), Check.FULL);
        due("35 no seventh", Check.stack(x, "-"), Check.FULL);
        due("35 no seventh on one", x.lay(5, 0), Check.FULL);
    }

    /** "All is as THE IMAGE": at each place of each STACK what lay there, not what was laid instead. */
    private static void undoBringsBackWhatLies() {
        ColourStacks x = new ColourStacks();
        Check.sheets(x, "dyed 1 1,1,1,1,1;dyed 2 2,2,2,2,2");
        for (int stack = 0; stack < 6; stack++) Check.stack(x, "aaaaaa");
        x.image();
        for (int stack = 0; stack < 6; stack++) {
            for (int i = 0; i < 6; i++) x.take(stack);
            for (int i = 0; i < 6; i++) x.lay(stack, 1);
        }
        due("35 undo", x.undo(), 2);
        for (int stack = 0; stack < 6; stack++) {
            for (int place = 0; place < 6; place++) due("35 place " + place + " of " + stack, x.at(stack, place), 0);
            due("35 upper end of " + stack, x.at(stack, -1), 6);
        }
    }

    /** "THE IMAGE is taken": a later one takes its place. */
    private static void undoTakesTheLatest() {
        ColourStacks x = with("glass 0 5,5,5,5,5", "a");
        x.image();
        x.number(0, 0, 6);
        x.image();
        x.number(0, 0, 7);
        due("35 to the later", x.undo(), 1);
        due("35 as the later", x.sheet(0, 10), 6);
        due("35 to the later again", x.undo(), 1);
        due("35 as the later still", x.sheet(0, 10), 6);
    }

    /** "All is as THE IMAGE": what changes behind undo() isn't in it, and it is there still. */
    private static void undoLeavesTheImageAlone() {
        ColourStacks x = with("glass 0 5,5,5,5,5", "a");
        x.image();
        for (int time = 0; time < 3; time++) {
            due("35 again", x.undo(), 1);
            due("35 its number", x.number(0, 2, time), 5);
            due("35 its kind and figure", x.becomes(0, 2, 3), 0);
            due("35 its height", x.lay(0, 0), 2);
            due("35 its power", x.power(1, 1, time), 9);
            due("35 its weight", x.weight(0, 4, time), 3);
            due("35 its wish", x.count(6), 0);
            x.wish(1, 2, 3);
            due("35 its next stack", Check.stack(x, "-"), 1);
            due("35 its next sheet", Check.sheets(x, "dyed 1 1,1,1,1,1"), 2);
        }
    }

    /** "THE IMAGE: SHEETS, STACKS, LAMPS, WEIGHTS, WISH": each of their numbers, first and last. */
    private static void undoBringsBackEach() {
        ColourStacks x = full();
        for (int i = 0; i < 15; i++) {
            x.power(i / 5, i % 5, i % 10);
            x.weight(i / 5, i % 5, 9 - i % 10);
        }
        x.wish(11, 22, 33);
        x.image();
        for (int i = 0; i < 15; i++) {
            x.power(i / 5, i % 5, 9 - i % 10);
            x.weight(i / 5, i % 5, i % 10);
        }
        x.wish(44, 55, 66);
        x.undo();
        for (int i = 0; i < 15; i++) {
            due("35 power " + i, x.power(i / 5, i % 5, 0), i % 10);
            due("35 weight " + i, x.weight(i / 5, i % 5, 0), 9 - i % 10);
        }
        for (int eye = 0; eye < 3; eye++) due("35 wish " + eye, x.count(5 + eye), 11 * (eye + 1));
    }

    /** "(not LISTS, THE TAPE, THE PAPER)". */
    private static void undoLeavesOut() {
        ColourStacks x = with("glass 0 5,5,5,5,5", "a", "-");
        Check.tell(x, 0, 1, 2);
        x.spell(1);
        Check.feedAll(x, "dyed 3");
        x.image();
        Check.feedAll(x, " 1,1,");
        x.spell(0);
        x.put(0, 1, 9);
        x.list(3, 1);
        due("35 undo", x.undo(), 1);
        due("35 not the tape", x.count(2), 11);
        due("35 the tape goes on", Check.sheets(x, "1,1,1"), 2);
        due("35 not the paper", Check.paper(x).equals("glass0") ? 1 : 0, 1);
        due("35 not the list", x.get(0, 1), 9);
        due("35 not the other list", x.get(3, 0), 0);
    }

    // ---- promise 36

    /** "BAD." */
    private static void countSuchWhat() {
        ColourStacks x = with("glass 0 5,5,5,5,5", "a");
        CHECK.refused("36 what", 8, Check.BAD, x::count);
        due("36 the last", x.count(7), 0);
        due("36 the first", x.count(0), 1);
    }

    /** "0 SHEETS, 1 STACKS, 2 bytes on THE TAPE, 3 of THE PAPER, 4 SHEETS laid in all STACKS; 5 .. 7 WISH". */
    private static void countAtFirst() {
        ColourStacks x = new ColourStacks();
        for (int what = 0; what < 8; what++) due("36 at first " + what, x.count(what), 0);
        Check.emptyStacks(x, 1);
        due("36 a stack without sheets", x.count(1), 1);
        due("36 none laid", x.count(4), 0);
    }

    /** The most that there may be of each. */
    private static void countTheMost() {
        ColourStacks x = new ColourStacks();
        for (int i = 0; i < 8; i++) Check.sheets(x, "mirror 9 0,0,0,0,0");
        for (int i = 0; i < 6; i++) Check.stack(x, "hhhhhh");
        x.spell(5);
        x.wish(9999, 9998, 9997);
        for (int i = 0; i < 81; i++) x.feed('a');
        int[] counts = {8, 6, 80, 47, 36, 9999, 9998, 9997};
        for (int what = 0; what < 8; what++) due("36 the most " + what, x.count(what), counts[what]);
        x.take(5);
        due("36 one less laid", x.count(4), 35);
    }
}
