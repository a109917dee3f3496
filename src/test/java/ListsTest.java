/** Promises 31 to 36: lists, the image, counts. */
public final class ListsTest {
    private static final Check CHECK = new Check("ListsTest");

    private static void due(String call, long got, long want) {
        CHECK.due(call, got, want);
    }

    public static void main(String[] args) {
        constants();
        list();
        put();
        get();
        image();
        undoAgain();
        imageLeavesOut();
        count();
        CHECK.done();
    }

    private static void constants() {
        due("NONE", ColourStacks.NONE, -1);
        due("BAD", ColourStacks.BAD, -2);
        due("STATE", ColourStacks.STATE, -3);
        due("FULL", ColourStacks.FULL, -4);
        due("NOT", ColourStacks.NOT, -5);
        due("NO", ColourStacks.NO, Long.MIN_VALUE);
    }

    private static void list() {
        ColourStacks x = new ColourStacks();
        due("31 most", x.list(0, 18), 1);
        due("31 last place", x.get(0, 17), 0);
        due("31 put", x.put(0, 17, 5), 1);
        due("31 put, too", x.put(0, 0, 5), 1);
        due("31 above", x.list(0, 19), Check.BAD);
        due("31 below", x.list(0, -1), Check.BELOW);
        due("31 far below", x.list(0, Integer.MIN_VALUE), Check.BELOW);
        due("31 unchanged", x.get(0, 17), 5);
        due("31 again", x.list(0, 2), 1);
        due("31 all 0", x.get(0, 0), 0);
        due("31 shorter", x.get(0, 2), Check.NO);
        due("31 longer", x.list(0, 18), 1);
        due("31 all 0 again", x.get(0, 17), 0);
        due("31 empty", x.list(3, 0), 1);
        due("31 empty is no nothing", x.put(3, 0, 1), Check.BEYOND);
        due("31 others hold nothing", x.put(2, 0, 1), Check.NOTHING);
        due("31 list", x.list(4, 1), Check.NONE);
        due("31 list below", x.list(-1, 1), Check.NONE);
        due("31 none ahead of bad", x.list(4, 19), Check.NONE);
        due("31 none ahead of below", x.list(4, -1), Check.NONE);
    }

    private static void put() {
        ColourStacks x = new ColourStacks();
        x.list(1, 3);
        x.list(2, 3);
        due("32 first", x.put(1, 0, Integer.MIN_VALUE), 1);
        due("32 last", x.put(1, 2, Integer.MAX_VALUE), 1);
        due("32 it stands", x.get(1, 0), Integer.MIN_VALUE);
        due("32 it stands, too", x.get(1, 2), Integer.MAX_VALUE);
        due("32 between", x.get(1, 1), 0);
        due("32 the other list", x.get(2, 0), 0);
        due("32 beyond", x.put(1, 3, 1), Check.BEYOND);
        due("32 below", x.put(1, -1, 1), Check.BEYOND);
        due("32 nothing", x.put(0, 0, 1), Check.NOTHING);
        due("32 nothing ahead of beyond", x.put(0, 99, 1), Check.NOTHING);
        due("32 list", x.put(4, 0, 1), Check.NONE);
        due("32 list below", x.put(-1, 0, 1), Check.NONE);
    }

    private static void get() {
        ColourStacks x = new ColourStacks();
        x.list(3, 2);
        x.put(3, 1, -7);
        due("33 place", x.get(3, 1), -7);
        due("33 beyond", x.get(3, 2), Check.NO);
        due("33 below", x.get(3, -1), Check.NO);
        due("33 nothing", x.get(0, 0), Check.NO);
        due("33 list", x.get(4, 0), Check.NO);
        due("33 list below", x.get(-1, 0), Check.NO);
    }

    private static void image() {
        ColourStacks x = new ColourStacks();
        due("35 none", x.undo(), Check.STATE);
        Check.sheets(x, "glass 1 1,2,3,4,5;thick 2 5,4,3,2,1");
        Check.stack(x, "ab");
        Check.stack(x, "b");
        x.wish(1, 2, 3);
        x.power(1, 1, 4);
        x.weight(2, 4, 6);
        due("34 image", x.image(), 2);
        Check.sheets(x, "clear 9 9,9,9,9,9");
        x.number(0, 4, 0);
        x.becomes(1, 5, 5);
        x.take(0);
        x.lay(1, 2);
        Check.stack(x, "ccc");
        x.wish(7, 8, 9);
        x.power(1, 1, 0);
        x.power(2, 0, 0);
        x.weight(2, 4, 0);
        due("35 undo", x.undo(), 2);
        int[] counts = {2, 2, 0, 0, 3, 1, 2, 3};
        for (int what = 0; what < counts.length; what++) due("35 count " + what, x.count(what), counts[what]);
        due("35 number", x.sheet(0, 14), 5);
        due("35 kind", x.sheet(1, 0), 1);
        due("35 figure", x.sheet(1, 1), 2);
        due("35 height", x.at(0, -1), 2);
        due("35 laid", x.at(0, 1), 1);
        due("35 laid on the other", x.at(1, 1), Check.NONE);
        due("35 power", x.power(1, 1, 9), 4);
        due("35 the other power", x.power(2, 0, 9), 9);
        due("35 weight", x.weight(2, 4, 9), 6);
        due("35 the next stack", Check.stack(x, "a"), 2);
        due("35 the next sheet", Check.sheets(x, "glass 1 1,1,1,1,1"), 3);
    }

    private static void undoAgain() {
        ColourStacks x = new ColourStacks();
        due("34 of a new one", x.image(), 0);
        Check.sheets(x, "glass 1 1,2,3,4,5");
        due("35 to none", x.undo(), 0);
        Check.sheets(x, "thick 1 9,2,3,4,5");
        due("35 the image stays", x.undo(), 0);
        Check.sheets(x, "dyed 1 9,2,3,4,5;dyed 2 9,9,9,9,9");
        due("34 a later one", x.image(), 2);
        x.number(0, 0, 1);
        due("35 to the later one", x.undo(), 2);
        due("35 its number", x.sheet(0, 10), 9);
    }

    private static void imageLeavesOut() {
        ColourStacks x = new ColourStacks();
        Check.sheets(x, "glass 1 1,2,3,4,5");
        Check.stack(x, "a");
        Check.tell(x, 0, 1, 2);
        x.image();
        x.spell(0);
        x.put(0, 1, 9);
        x.list(1, 1);
        Check.feedAll(x, "gla");
        x.undo();
        due("35 not the paper", x.count(3), 6);
        due("35 not the tape", x.count(2), 3);
        due("35 not the lists", x.get(0, 1), 9);
        due("35 no list", x.get(1, 0), 0);
    }

    private static void count() {
        ColourStacks x = new ColourStacks();
        Check.sheets(x, "glass 1 1,2,3,4,5;thick 2 5,4,3,2,1;clear 0 1,1,1,1,1");
        Check.stack(x, "aba");
        Check.stack(x, "-");
        x.wish(10, 20, 9999);
        x.spell(0);
        Check.feedAll(x, "glass");
        int[] counts = {3, 2, 5, 20, 3, 10, 20, 9999};
        for (int what = 0; what < counts.length; what++) due("36 count " + what, x.count(what), counts[what]);
        x.lay(1, 2);
        due("36 laid", x.count(4), 4);
        x.take(0);
        x.take(0);
        due("36 taken", x.count(4), 2);
        due("36 what", x.count(8), Check.BAD);
        due("36 what below", x.count(-1), Check.BAD);
        due("36 far", x.count(Integer.MIN_VALUE), Check.BAD);
    }
}
