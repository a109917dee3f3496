/**
 * Promises 1, 2, 3 and 7 at their edges: a test for each sentence of the document that names one. The
 * sentence stands above its test.
 */
public final class TapeEdgesTest {
    private static final Check CHECK = new Check("TapeEdgesTest");
    private static final String[] WORDS = {"glass", "thick", "smoked", "mirror", "dyed", "clear"};

    private static void due(String call, long got, long want) {
        CHECK.due(call, got, want);
    }

    public static void main(String[] args) {
        noSheetsNoStacks();
        allElseAtFirst();
        ownStateOfEachObject();
        byteTooSmallOrLarge();
        tapeHoldsEighty();
        tapeIsReadWhole();
        tapeIsEmptyBehindSheets();
        tapeIsEmptyBehindStack();
        eightSheetsAtMost();
        noneComesIfTooMany();
        faultAheadOfFullSheets();
        oneOrMoreClauses();
        words();
        wordThatIsNone();
        wordEndsWhereItsLettersEnd();
        figures();
        numbers();
        endsTooEarly();
        firstWrongByte();
        firstFaultFromTheLeft();
        noSheetOfAFault();
        stackOfOneToSix();
        lettersOfSheetsThereAre();
        letterWithoutSheets();
        stackOfNone();
        stackEndsTooEarly();
        sixStacksAtMost();
        faultAheadOfFullStacks();
        CHECK.done();
    }

    private static ColourStacks withSheets(int count) {
        ColourStacks x = new ColourStacks();
        Check.clearSheets(x, count);
        return x;
    }

    // ---- promise 1

    /** "No SHEETS, no STACKS." */
    private static void noSheetsNoStacks() {
        ColourStacks x = new ColourStacks();
        due("1 sheets", x.count(0), 0);
        due("1 stacks", x.count(1), 0);
        due("1 sheet", x.sheet(0, 0), Check.NONE);
        due("1 number", x.number(0, 0, 0), Check.NONE);
        due("1 becomes", x.becomes(0, 0, 0), Check.NONE);
        due("1 lay", x.lay(0, 0), Check.NONE);
        due("1 take", x.take(0), Check.NONE);
        due("1 at", x.at(0, -1), Check.NONE);
        due("1 through", x.through(0, 0, 0), Check.NO);
        due("1 sees", x.sees(0, 0, 0, 0, 0), Check.NO);
        due("1 shade", x.shade(0, 0, 0, 0), Check.NONE);
        due("1 alike", x.alike(0, 0, 0), Check.NONE);
        due("1 without", x.without(0, 0, 0), Check.NONE);
        due("1 fades", x.fades(0, 0), Check.NONE);
        due("1 spell", x.spell(0), Check.NONE);
        due("1 first stack", Check.stack(x, "-"), 0);
        due("1 first stack's height", x.at(0, -1), 0);
        due("1 first sheet", Check.sheets(x, Check.even("glass", 0, 1)), 1);
    }

    /** "9 at first"; "at first: RED 0 0 1 2 3, GREEN 0 1 3 1 0, BLUE 4 2 0 0 0"; "0 at first"; "nothing at first". */
    private static void allElseAtFirst() {
        ColourStacks x = new ColourStacks();
        int[][] weights = {{0, 0, 1, 2, 3}, {0, 1, 3, 1, 0}, {4, 2, 0, 0, 0}};
        for (int row = 0; row < 3; row++) {
            for (int band = 0; band < 5; band++) {
                due("1 power at first " + row + band, x.power(row, band, 9), 9);
                due("1 weight at first " + row + band, x.weight(row, band, weights[row][band]), weights[row][band]);
            }
            due("1 wish at first " + row, x.count(5 + row), 0);
        }
        due("1 tape at first", x.count(2), 0);
        due("1 paper at first", x.count(3), 0);
        due("1 no byte on it", x.paper(0), Check.NONE);
        for (int list = 0; list < 4; list++) {
            due("1 list at first " + list, x.put(list, 0, 0), Check.NOTHING);
            due("1 no place of it " + list, x.get(list, 0), Check.NO);
        }
        due("1 no image", x.undo(), Check.STATE);
    }

    private static void ownStateOfEachObject() {
        ColourStacks one = new ColourStacks();
        ColourStacks other = new ColourStacks();
        Check.sheets(one, Check.even("glass", 3, 7));
        Check.stack(one, "a");
        one.wish(1, 2, 3);
        one.power(0, 0, 1);
        one.weight(0, 0, 1);
        one.spell(0);
        one.list(0, 1);
        one.image();
        one.feed('a');
        for (int what = 0; what < 8; what++) due("1 other's count " + what, other.count(what), 0);
        due("1 other's power", other.power(0, 0, 9), 9);
        due("1 other's weight", other.weight(0, 0, 0), 0);
        due("1 other's list", other.get(0, 0), Check.NO);
        due("1 other's image", other.undo(), Check.STATE);
    }

    // ---- promise 2

    /** "A byte (1 .. 127)"; "BAD". */
    private static void byteTooSmallOrLarge() {
        ColourStacks x = new ColourStacks();
        due("2 least", x.feed(1), 1);
        due("2 greatest", x.feed(127), 2);
        for (int letter : new int[] {0, 128, -1, 255, 256, 353, Integer.MIN_VALUE, Integer.MAX_VALUE}) {
            due("2 no byte " + letter, x.feed(letter), Check.BAD);
        }
        due("2 refused bytes aren't there", x.count(2), 2);
        due("2 next", x.feed('a'), 3);
    }

    /** "THE TAPE (80 bytes at most)"; "BAD; FULL." */
    private static void tapeHoldsEighty() {
        ColourStacks x = new ColourStacks();
        for (int i = 1; i <= 80; i++) due("2 byte " + i, x.feed(i), i);
        due("2 the 81st", x.feed('a'), Check.FULL);
        due("2 the 81st again", x.feed(1), Check.FULL);
        due("2 BAD comes ahead of FULL", x.feed(0), Check.BAD);
        due("2 BAD comes ahead of FULL, too", x.feed(128), Check.BAD);
        due("2 still eighty", x.count(2), 80);
    }

    /** "THE TAPE (80 bytes at most) tells": the eightieth byte is read, the refused one isn't. */
    private static void tapeIsReadWhole() {
        String three = "glass 1 10,10,1,1,1;glass 2 10,10,1,1,1;glass 3 10,10,1,1,1;";
        ColourStacks x = new ColourStacks();
        Check.feedAll(x, three + "glass 4 10,10,10,1,7");
        due("3 eighty bytes", x.count(2), 80);
        due("3 none more", x.feed('1'), Check.FULL);
        due("3 four of eighty bytes", x.sheets(), 4);
        due("3 the eightieth", x.sheet(3, 14), 7);
        due("3 four more of eighty bytes", Check.sheets(x, three + "glass 4 10,10,10,1,7"), 8);
        x = new ColourStacks();
        due("3 ends too early at eighty", Check.sheets(x, three + "glass 4 10,10,10,10,"), -180);
        due("3 an empty word behind eighty", Check.sheets(x, three + "glass 4 10,10,10,1;"), -178);
        due("3 a semicolon as the eightieth", Check.sheets(x, three + "glass 4 10,10,1,1,1;"), -180);
        x = new ColourStacks();
        due("3 a wrong eightieth", Check.sheets(x, three + "glass 4 10,10,10,1,x"), -179);
        due("3 a word of eighty letters", Check.sheets(x, "g".repeat(80)), -100);
        Check.clearSheets(x, 1);
        due("7 eighty letters", Check.stack(x, "a".repeat(80)), -106);
        due("3 none but one came", x.count(0), 1);
    }

    /** "THE TAPE is empty behind each call that reads it." */
    private static void tapeIsEmptyBehindSheets() {
        ColourStacks x = withSheets(7);
        due("3 a fault", Check.sheets(x, "glass 1 1,1,1,1,1?"), -117);
        due("3 tape behind a fault", x.count(2), 0);
        due("3 too many", Check.sheets(x, "dyed 1 1,1,1,1,1;dyed 1 1,1,1,1,1"), Check.FULL);
        due("3 tape behind FULL", x.count(2), 0);
        due("3 the eighth", Check.sheets(x, "dyed 1 1,1,1,1,1"), 8);
        due("3 tape behind sheets", x.count(2), 0);
        due("3 nothing is left to read", x.sheets(), -100);
        due("2 the tape begins anew", x.feed('a'), 1);
    }

    /** "THE TAPE is empty behind each call that reads it." */
    private static void tapeIsEmptyBehindStack() {
        ColourStacks x = withSheets(1);
        due("7 a fault", Check.stack(x, "ab"), -101);
        due("7 tape behind a fault", x.count(2), 0);
        for (int i = 0; i < 6; i++) due("7 stack", Check.stack(x, "a"), i);
        due("7 tape behind a stack", x.count(2), 0);
        due("7 too many", Check.stack(x, "a"), Check.FULL);
        due("7 tape behind FULL", x.count(2), 0);
        due("7 nothing is left to read", x.stack(), -100);
        due("2 the tape begins anew", x.feed('a'), 1);
    }

    // ---- promise 3

    /** "SHEETS 0 .. 7, as they come"; "FULL: there would be more than eight". */
    private static void eightSheetsAtMost() {
        ColourStacks x = new ColourStacks();
        for (int i = 0; i < 8; i++) {
            due("3 sheet " + i, Check.sheets(x, WORDS[i % 6] + " " + i + " " + i + ",0,10,0," + i), i + 1);
        }
        for (int i = 0; i < 8; i++) {
            due("3 kind of " + i, x.sheet(i, 0), i % 6);
            due("3 figure of " + i, x.sheet(i, 1), i);
            due("3 first number of " + i, x.sheet(i, 10), i);
            due("3 last number of " + i, x.sheet(i, 14), i);
        }
        due("3 the ninth", Check.sheets(x, "dyed 1 1,1,1,1,1"), Check.FULL);
        due("3 no ninth", x.sheet(8, 0), Check.NONE);
        due("3 still eight", x.count(0), 8);
    }

    /** "FULL: there would be more than eight (none comes)." */
    private static void noneComesIfTooMany() {
        String[] told = {"", "dyed 1 1,1,1,1,1", "dyed 1 1,1,1,1,1;dyed 2 1,1,1,1,1",
            "dyed 1 1,1,1,1,1;dyed 2 1,1,1,1,1;dyed 3 1,1,1,1,1",
            "dyed 1 1,1,1,1,1;dyed 2 1,1,1,1,1;dyed 3 1,1,1,1,1;dyed 4 1,1,1,1,1"};
        for (int more = 1; more <= 4; more++) {
            ColourStacks tooFew = withSheets(9 - more);
            due("3 one too many of " + more, Check.sheets(tooFew, told[more]), Check.FULL);
            due("3 none comes of " + more, tooFew.count(0), 9 - more);
            due("3 none stands there of " + more, tooFew.sheet(9 - more, 0), Check.NONE);
            ColourStacks enough = withSheets(8 - more);
            due("3 just eight by " + more, Check.sheets(enough, told[more]), 8);
            due("3 the last by " + more, enough.sheet(7, 1), more);
        }
    }

    /** "-100 less a FAULT (ahead of FULL)". */
    private static void faultAheadOfFullSheets() {
        ColourStacks x = withSheets(8);
        due("3 full and empty", x.sheets(), -100);
        due("3 full and too short", Check.sheets(x, "glass 1 1,1,1,1"), -115);
        due("3 full and no word", Check.sheets(x, "dyed 1 1,1,1,1,1;dye 1 1,1,1,1,1"), -117);
        due("3 full and none told ill", Check.sheets(x, "dyed 1 1,1,1,1,1"), Check.FULL);
    }

    /** "CLAUSES, one or more, with ; between". */
    private static void oneOrMoreClauses() {
        ColourStacks x = new ColourStacks();
        due("3 none", x.sheets(), -100);
        due("3 one", Check.sheets(x, "dyed 1 1,1,1,1,1"), 1);
        due("3 two", Check.sheets(x, "dyed 2 1,1,1,1,1;dyed 3 1,1,1,1,1"), 3);
        due("3 four", Check.sheets(x, "dyed 4 1,1,1,1,1;dyed 5 1,1,1,1,1;dyed 6 1,1,1,1,1;dyed 7 1,1,1,1,1"), 7);
        for (int i = 0; i < 7; i++) due("3 in their order " + i, x.sheet(i, 1), i + 1);
        due("3 ahead of them nothing", Check.sheets(x, ";dyed 1 1,1,1,1,1"), -100);
        due("3 behind them nothing", Check.sheets(x, "dyed 1 1,1,1,1,1;"), -117);
        due("3 between them one", Check.sheets(x, "dyed 1 1,1,1,1,1;;dyed 1 1,1,1,1,1"), -117);
        due("3 between them no blank", Check.sheets(x, "dyed 1 1,1,1,1,1; dyed 1 1,1,1,1,1"), -117);
        due("3 between them no comma", Check.sheets(x, "dyed 1 1,1,1,1,1,dyed 1 1,1,1,1,1"), -116);
    }

    /** "a WORD (glass thick smoked mirror dyed clear)": the KINDS by their numbers. */
    private static void words() {
        for (int kind = 0; kind < 6; kind++) {
            ColourStacks x = new ColourStacks();
            due("3 " + WORDS[kind], Check.sheets(x, Check.even(WORDS[kind], 9, 0)), 1);
            due("3 kind of " + WORDS[kind], x.sheet(0, 0), kind);
            due("3 figure of " + WORDS[kind], x.sheet(0, 1), 9);
        }
    }

    /** "of a WORD that is none of these where it begins (an empty one, too)"; "one letter more is no KIND". */
    private static void wordThatIsNone() {
        String rest = " 1 1,1,1,1,1";
        String first = "dyed 1 1,1,1,1,1;";
        for (String word : WORDS) {
            String less = word.substring(0, word.length() - 1);
            for (String none : new String[] {less, word + "s", word + "a", word + "z", word.substring(1), "x" + word,
                word + word, word.charAt(0) + "", "", less + "y"}) {
                ColourStacks x = new ColourStacks();
                due("3 '" + none + "'", Check.sheets(x, none + rest), -100);
                due("3 '" + none + "' later", Check.sheets(x, first + none + rest), -117);
                due("3 none came of '" + none + "'", x.count(0), 0);
            }
        }
    }

    /** "A WORD is as many letters a .. z as stand there." */
    private static void wordEndsWhereItsLettersEnd() {
        for (char other : new char[] {'A', 'Z', '`', '{', '1', ';', ',', '\t', 127}) {
            ColourStacks x = new ColourStacks();
            due("3 behind glass " + (int) other, Check.sheets(x, "glass" + other + " 1 1,1,1,1,1"), -105);
            due("3 ahead of glass " + (int) other, Check.sheets(x, other + "glass 1 1,1,1,1,1"), -100);
            due("3 within glass " + (int) other, Check.sheets(x, "gla" + other + "s 1 1,1,1,1,1"), -100);
        }
        ColourStacks x = new ColourStacks();
        due("3 a great letter", Check.sheets(x, "Glass 1 1,1,1,1,1"), -100);
        due("3 a great letter as its last", Check.sheets(x, "glasS 1 1,1,1,1,1"), -100);
    }

    /** "FIGURE (0 .. 9)": "a blank, FIGURE, a blank". */
    private static void figures() {
        for (int figure = 0; figure <= 9; figure++) {
            ColourStacks x = new ColourStacks();
            due("3 figure " + figure, Check.sheets(x, Check.even("clear", figure, 1)), 1);
            due("3 it is " + figure, x.sheet(0, 1), figure);
        }
        ColourStacks x = new ColourStacks();
        for (String none : new String[] {"/", ":", "-1", "a", "", ",", " "}) {
            due("3 no figure " + none, Check.sheets(x, "clear " + none + " 1,1,1,1,1"), -106);
        }
        due("3 ten is no figure", Check.sheets(x, "clear 10 1,1,1,1,1"), -107);
        due("3 no second blank ahead of it", Check.sheets(x, "clear  1 1,1,1,1,1"), -106);
        due("3 no second blank behind it", Check.sheets(x, "clear 1  1,1,1,1,1"), -108);
        due("3 no tab", Check.sheets(x, "clear\t1 1,1,1,1,1"), -105);
    }

    /** "five NUMBERS (one figure, or 10: 1 with 0 behind is that) with , between". */
    private static void numbers() {
        String[] five = {"3", "3", "3", "3", "3"};
        for (int band = 0; band < 5; band++) {
            ColourStacks x = new ColourStacks();
            int at = 108 + 2 * band;
            String[] good = {"0", "1", "9", "10"};
            for (int i = 0; i < good.length; i++) {
                five[band] = good[i];
                due("3 number " + good[i], Check.sheets(x, "glass 0 " + String.join(",", five)), i + 1);
                due("3 it is " + good[i], x.sheet(i, 10 + band), Integer.parseInt(good[i]));
            }
            x = new ColourStacks();
            String[] bad = {"", "a", "/", ":", "-1", "11", "19", "20", "00", "01", "100", "1a", "99", " 3"};
            int[] within = {0, 0, 0, 0, 0, 1, 1, 1, 1, 1, 2, 1, 1, 0};
            for (int i = 0; i < bad.length; i++) {
                five[band] = bad[i];
                due("3 no number '" + bad[i] + "' of band " + band,
                    Check.sheets(x, "glass 0 " + String.join(",", five)), -at - within[i]);
            }
            five[band] = "3";
        }
        ColourStacks x = new ColourStacks();
        due("3 all ten", Check.sheets(x, "glass 0 10,10,10,10,10"), 1);
        due("3 four numbers", Check.sheets(x, "glass 0 1,1,1,1;dyed 0 1,1,1,1,1"), -115);
        due("3 six numbers", Check.sheets(x, "glass 0 1,1,1,1,1,1"), -117);
        due("3 a blank between", Check.sheets(x, "glass 0 1 1,1,1,1"), -109);
        due("3 nothing between", Check.sheets(x, "glass 0 1111,1"), -109);
    }

    /** "the length, if it ends too early": each beginning of a text that tells two sheets. */
    private static void endsTooEarly() {
        String text = "mirror 7 10,0,9,1,10;dyed 3 1,2,3,4,5";
        for (int length = 0; length < text.length(); length++) {
            int fault = length < 6 ? 0 : length > 21 && length < 25 ? 21 : length;
            int want = length == 19 || length == 20 ? 1 : -100 - fault;
            due("3 its first " + length + " bytes", Check.sheets(new ColourStacks(), text.substring(0, length)), want);
        }
        due("3 all its bytes", Check.sheets(new ColourStacks(), text), 2);
    }

    /** "of all else the place (from 0) of the first byte with which no such text goes on". */
    private static void firstWrongByte() {
        String text = "mirror 7 10,0,9,1,10;dyed 3 1,2,3,4,5";
        for (int place = 0; place < text.length(); place++) {
            boolean inFirst = place < 6;
            boolean inSecond = place >= 21 && place < 25;
            int fault = inFirst ? 0 : inSecond ? 21 : place;
            for (char wrong : new char[] {'!', 1, 127, '.', '#'}) {
                String spoiled = text.substring(0, place) + wrong + text.substring(place + 1);
                due("3 '" + spoiled + "'", Check.sheets(new ColourStacks(), spoiled), -100 - fault);
            }
            // a letter right behind a word belongs to the word
            int begins = place <= 6 ? 0 : place >= 21 && place <= 25 ? 21 : place;
            String lettered = text.substring(0, place) + "q" + text.substring(place + 1);
            due("3 '" + lettered + "'", Check.sheets(new ColourStacks(), lettered), -100 - begins);
        }
        due("3 one byte too much", Check.sheets(new ColourStacks(), text + "!"), -137);
        due("3 one blank too much", Check.sheets(new ColourStacks(), text + " "), -137);
    }

    /** "FAULT: the first from the left". */
    private static void firstFaultFromTheLeft() {
        ColourStacks x = new ColourStacks();
        due("3 word ahead of figure", Check.sheets(x, "glas x 1,1,1,1,1"), -100);
        due("3 figure ahead of number", Check.sheets(x, "glass x 11,1,1,1,1"), -106);
        due("3 number ahead of a later word", Check.sheets(x, "glass 1 1,1,1,1,11;glas 1 1,1,1,1,1"), -117);
        due("3 a byte ahead of the end", Check.sheets(x, "glass 1 1,?"), -110);
        due("3 a word ahead of the end", Check.sheets(x, "glass 1 1,1,1,1,1;gla"), -118);
        due("3 the first of two words", Check.sheets(x, "glas 1 1,1,1,1,1;gla"), -100);
        due("7 the first of two letters", Check.stack(x, "bc"), -100);
    }

    /** "What is answered so changes nothing": good clauses ahead of the fault don't come either. */
    private static void noSheetOfAFault() {
        ColourStacks x = withSheets(1);
        due("3 the third is ill", Check.sheets(x, "dyed 1 1,1,1,1,1;dyed 2 1,1,1,1,1;dyed 3 1,1,1,1,x"), -149);
        due("3 the first two don't come", x.count(0), 1);
        due("3 none is there", x.sheet(1, 0), Check.NONE);
    }

    // ---- promise 7

    /** "letters of SHEETS that there are, one to six": "the same one as often as may be". */
    private static void stackOfOneToSix() {
        ColourStacks x = withSheets(2);
        for (int height = 1; height <= 6; height++) {
            due("7 of " + height, Check.stack(x, "bababa".substring(0, height)), height - 1);
            due("7 it has " + height, x.at(height - 1, -1), height);
            for (int place = 0; place < height; place++) {
                due("7 lowest first, " + place, x.at(height - 1, place), 1 - place % 2);
            }
        }
        ColourStacks y = withSheets(2);
        due("7 six times the same", Check.stack(y, "bbbbbb"), 0);
        for (int place = 0; place < 6; place++) due("7 the same at " + place, y.at(0, place), 1);
        due("7 of seven", Check.stack(y, "bbbbbbb"), -106);
        due("7 of eight", Check.stack(y, "abababab"), -106);
        due("7 none of seven", y.count(1), 1);
    }

    /** "letters of SHEETS that there are"; "letters a .. h by their numbers". */
    private static void lettersOfSheetsThereAre() {
        for (int sheets = 0; sheets <= 8; sheets++) {
            ColourStacks x = withSheets(sheets);
            if (sheets > 0) {
                due("7 last of " + sheets, Check.stack(x, (char) ('a' + sheets - 1) + ""), 0);
                due("7 it lies there", x.at(0, 0), sheets - 1);
                due("7 one behind the last, later", Check.stack(x, "aa" + (char) ('a' + sheets)), -102);
            }
            due("7 one behind the last of " + sheets, Check.stack(x, (char) ('a' + sheets) + ""), -100);
            due("7 stacks of " + sheets, x.count(1), sheets > 0 ? 1 : 0);
        }
        ColourStacks x = withSheets(8);
        for (int letter : new int[] {'`', 'A', 'H', '0', ' ', ';', 1, 127}) {
            due("7 no letter " + letter, Check.stack(x, (char) letter + ""), -100);
            due("7 no letter behind one " + letter, Check.stack(x, "h" + (char) letter), -101);
        }
    }

    /** "letters of SHEETS that there are": of none none, but - alone may stand. */
    private static void letterWithoutSheets() {
        ColourStacks x = new ColourStacks();
        due("7 a without sheets", Check.stack(x, "a"), -100);
        due("7 - without sheets", Check.stack(x, "-"), 0);
    }

    /** "(or - alone: none)"; "Behind - nothing stands: the FAULT is 1 then." */
    private static void stackOfNone() {
        ColourStacks x = withSheets(1);
        for (String text : new String[] {"--", "-a", "- ", "-aaaaaaa", "-;", "-\u0001"}) {
            due("7 '" + text + "'", Check.stack(x, text), -101);
        }
        due("7 not alone, behind a letter", Check.stack(x, "a-"), -101);
        due("7 not alone, behind six", Check.stack(x, "aaaaaa-"), -106);
        due("7 none of these", x.count(1), 0);
        due("7 alone", Check.stack(x, "-"), 0);
        due("7 it has none", x.at(0, -1), 0);
        due("7 it has no lowest", x.at(0, 0), Check.NONE);
    }

    /** "the length, if it ends too early". */
    private static void stackEndsTooEarly() {
        ColourStacks x = withSheets(1);
        due("7 nothing on the tape", x.stack(), -100);
        due("7 no stack of it", x.count(1), 0);
    }

    /** "STACKS 0 .. 5"; "FULL: six." */
    private static void sixStacksAtMost() {
        ColourStacks x = withSheets(1);
        for (int i = 0; i < 6; i++) due("7 stack " + i, Check.stack(x, i % 2 == 0 ? "-" : "aa"), i);
        due("7 the seventh", Check.stack(x, "a"), Check.FULL);
        due("7 the seventh, without sheets", Check.stack(x, "-"), Check.FULL);
        due("7 six stay", x.count(1), 6);
        due("7 no seventh", x.at(6, -1), Check.NONE);
        due("7 nothing more laid", x.count(4), 6);
    }

    /** "-100 less a FAULT (ahead of FULL)". */
    private static void faultAheadOfFullStacks() {
        ColourStacks x = withSheets(1);
        Check.emptyStacks(x, 6);
        due("7 full and empty", x.stack(), -100);
        due("7 full and no such sheet", Check.stack(x, "aab"), -102);
        due("7 full and seven", Check.stack(x, "aaaaaaa"), -106);
        due("7 full and told well", Check.stack(x, "aaaaaa"), Check.FULL);
    }
}
