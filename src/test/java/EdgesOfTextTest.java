/** The edges that the document names for a new object and for the text: promises 1 to 4, and their terms. */
public final class EdgesOfTextTest {
    private static final int BAD = -1, STATE = -2, FULL = -3, NO = -1000000, NOT_SO_MANY = -5;
    private static final int TEXT_MOST = 200;

    private final Sentences s = new Sentences();

    public static void main(String[] args) {
        EdgesOfTextTest t = new EdgesOfTextTest();
        t.newObject();
        t.newObjectsPlans();
        t.newObjectsRefusals();
        t.typeTakesOneToEight();
        t.typeTakesTheLowest();
        t.typeTakesTheHighestFirst();
        t.typeOfNumbersBelowZero();
        t.typeIsFull();
        t.clear();
        t.riverEmptiesTheText();
        t.riverCountsItems();
        t.faultAtEitherEnd();
        t.faultChangesNothing();
        t.sevenThings();
        t.banks();
        t.wants();
        t.rents();
        t.weights();
        t.eightPairs();
        t.ferry();
        t.load();
        t.days();
        t.frost();
        t.whatIsNotTold();
        t.twoHundredBytes();
        t.blanks();
        t.noBlanksNeeded();
        t.noItems();
        t.numbersInOrder();
        t.thingsToldAhead();
        t.unlike();
        t.toldAgain();
        t.onceEach();
        t.words();
        t.wordsThatAreNone();
        t.bytesThatBeginNone();
        t.numbers();
        t.firstFault();
        t.faultsThatAreWellSpelt();
        t.endsTooEarly();
        t.notSafe();
        t.readAnew();
        t.readOverAndOver();
        t.s.end();
    }

    // ---- what the tests ask with

    private void read(String text, int items) {
        s.due("river() of [" + text + "]", Tell.river(new FallowFerry(), text), items);
    }

    /** The FAULT is to be at the place of the sign |, which is not typed; nothing changes. */
    private void fault(String marked) {
        int place = marked.indexOf('|');
        fault(marked.substring(0, place) + marked.substring(place + 1), place);
    }

    private void fault(String text, int place) {
        FallowFerry x = Tell.ferry(Rivers.WOLF);
        s.due("river() of [" + text + "]", Tell.river(x, text), -10 - place);
        s.due("bytes that stay of [" + text + "]", x.count(4), text.length());
        s.due("THINGS that stay", x.count(0), 3);
        s.due("standings() that stay", x.standings(), 10);
    }

    /** A NUMBER between these two: the least and the most are taken, those beyond are a FAULT at their place. */
    private void takes(String ahead, String behind, int least, int most) {
        int items = (ahead + "1" + behind).split(";").length;
        for (int n = least; n <= most; n++) read(ahead + n + behind, items);
        if (least > 0) fault(ahead + "|" + (least - 1) + behind);
        for (int beyond : new int[] {most + 1, most + 2, 50, 99, 100}) fault(ahead + "|" + beyond + behind);
    }

    private static FallowFerry withText(int length) {
        FallowFerry x = new FallowFerry();
        Tell.type(x, " ".repeat(length));
        return x;
    }

    // ---- promise 1

    private void newObject() {
        s.holds(1, "As told; no THINGS.");
        FallowFerry x = new FallowFerry();
        int[] now = {0, 2, 9, 0, 0, 0, 1};
        for (int k = 0; k < now.length; k++) s.due("now(" + k + ")", x.now(k), now[k]);
        for (int k = 0; k <= 4; k++) s.due("count(" + k + ")", x.count(k), 0);
        s.due("trace()", x.trace(), 0);
        s.due("clear()", x.clear(), 0);
        s.due("forget()", x.forget(), 0);
        s.due("lot(1)", x.lot(1), 1);
        s.due("night() of DRAW 5: FROST is 5", Nights.drawing(x, 5), 0);
        s.due("night() of DRAW 4: FROST is 5", Nights.drawing(x, 4), 1);
        s.due("cross(0)", x.cross(0), 8);
        s.due("river() of no bytes", x.river(), 0);
    }

    private void newObjectsPlans() {
        s.holds(1, "As told; no THINGS.");
        FallowFerry x = new FallowFerry();
        s.due("done(-1)", x.done(-1), 0);
        s.due("done(0)", x.done(0), NOT_SO_MANY);
        s.due("rent(0, -1)", x.rent(0, -1), 0);
        s.due("rent(20, -1)", x.rent(20, -1), 0);
        s.due("rent(20, 0)", x.rent(20, 0), NOT_SO_MANY);
        s.due("least()", x.least(), 1);
        s.due("standings()", x.standings(), 2);
        for (int n = 0; n <= 5; n++) {
            s.due("fits(" + n + ", 0)", x.fits(n, 0), 1);
            for (int c = 1; c <= n; c++) s.due("fits(" + n + ", " + c + ")", x.fits(n, c), 0);
        }
    }

    private void newObjectsRefusals() {
        s.holds(1, "As told; no THINGS.");
        FallowFerry x = new FallowFerry();
        for (int what = 0; what <= 4; what++) s.due("thing(0, " + what + ")", x.thing(0, what), BAD);
        s.due("cross(1)", x.cross(1), BAD);
        s.due("slide(0)", x.slide(0), BAD);
        s.due("undo()", x.undo(), STATE);
        s.due("sooner(0)", x.sooner(0), NO);
        s.due("saw(0, 0, 0)", x.saw(0, 0, 0), BAD);
        s.due("owed(0, 0)", x.owed(0, 0), BAD);
        for (int kind = 0; kind <= 5; kind++) s.due("mark(" + kind + ", 0)", x.mark(kind, 0), NO);
        s.due("back(0)", x.back(0), STATE);
        s.due("back(1)", x.back(1), STATE);
    }

    // ---- promise 2

    private void typeTakesOneToEight() {
        s.holds(2, "The lowest n (1 .. 8) bytes of v");
        int has = 0;
        FallowFerry x = new FallowFerry();
        for (int n = 1; n <= 8; n++) {
            has += n;
            s.due("type(0, " + n + ")", x.type(0, n), has);
        }
        for (int n : new int[] {0, 9, -1, 10, 64, 257, Integer.MIN_VALUE, Integer.MAX_VALUE}) {
            s.due("type(0, " + n + ")", x.type(0, n), BAD);
            s.due("bytes behind it", x.count(4), has);
        }
    }

    private void typeTakesTheLowest() {
        s.holds(2, "The lowest n (1 .. 8) bytes of v");
        String text = "   load7";
        for (int n = 1; n <= 8; n++) {
            FallowFerry x = new FallowFerry();
            Tell.type(x, text.substring(0, 8 - n));
            long upper = n == 8 ? 0 : 0x7A7A7A7A7A7A7A7AL << (8 * n);
            s.due("type of " + n + " with more above", x.type(upper | Tell.bytes(text.substring(8 - n)), n), 8);
            Tell.type(x, ";");
            s.due("river() then", x.river(), 1);
            s.due("now(1) then", x.now(1), 7);
        }
    }

    private void typeTakesTheHighestFirst() {
        s.holds(2, "the highest of them first");
        FallowFerry x = new FallowFerry();
        s.due("type of load 12;", x.type(0x6C6F61642031323BL, 8), 8);
        s.due("river()", x.river(), 1);
        s.due("now(1)", x.now(1), 12);
        s.due("type of ;21 daol", x.type(0x3B32312064616F6CL, 8), 8);
        s.due("river(), the ; at the front", x.river(), -10);
    }

    private void typeOfNumbersBelowZero() {
        s.holds(2, "The lowest n (1 .. 8) bytes of v");
        FallowFerry x = new FallowFerry();
        s.due("type(-1, 8)", x.type(-1, 8), 8);
        s.due("river(), the byte 255 begins no TOKEN", x.river(), -10);
        x.clear();
        x.type(Tell.bytes("days 13"), 7);
        s.due("type of ; with ones above", x.type(-256L | ';', 1), 8);
        s.due("river()", x.river(), 1);
        s.due("now(2)", x.now(2), 13);
        x.type(Long.MIN_VALUE | Tell.bytes("\0load 1;"), 7);
        s.due("river(), the highest byte doesn't come", x.river(), 1);
        x.type(Long.MIN_VALUE | Tell.bytes("\0load 1;"), 8);
        s.due("river(), the highest byte, 128, comes", x.river(), -10);
    }

    private void typeIsFull() {
        s.holds(2, "BAD; FULL.");
        for (int n = 1; n <= 8; n++) {
            FallowFerry x = withText(TEXT_MOST - n);
            for (int more = n + 1; more <= 8; more++) {
                s.due("type of " + more + " at " + (TEXT_MOST - n), x.type(0, more), FULL);
                s.due("bytes behind it", x.count(4), TEXT_MOST - n);
            }
            s.due("type of 9, BAD ahead of FULL", x.type(0, 9), BAD);
            s.due("type of " + n + " at " + (TEXT_MOST - n), x.type(Tell.bytes(" ".repeat(n)), n), TEXT_MOST);
            s.due("type of 1 at 200", x.type(0, 1), FULL);
            s.due("type of 8 at 200", x.type(0, 8), FULL);
            s.due("type of 0 at 200, BAD ahead of FULL", x.type(0, 0), BAD);
            s.due("river(), all of it blanks", x.river(), 0);
        }
    }

    // ---- promise 3

    private void clear() {
        s.holds(3, "THE TEXT is empty: how many bytes it had.");
        for (int length : new int[] {0, 1, 8, 199, 200}) {
            FallowFerry x = withText(length);
            s.due("clear() of " + length, x.clear(), length);
            s.due("count(4)", x.count(4), 0);
            s.due("clear() of none", x.clear(), 0);
        }
        FallowFerry x = withText(TEXT_MOST);
        x.clear();
        s.due("200 bytes are taken again", Tell.type(x, "x".repeat(TEXT_MOST)), TEXT_MOST);
        s.due("river() of them", x.river(), -10);
        s.due("clear() behind a FAULT", x.clear(), TEXT_MOST);
        s.due("nothing of it is left", Tell.river(x, "load 3;"), 1);
        s.due("clear() behind river()", x.clear(), 0);
        s.due("the river stays", x.now(1), 3);
    }

    // ---- promise 4

    private void riverEmptiesTheText() {
        s.holds(4, "THE TEXT tells all, and is empty then: how many ITEMS.");
        FallowFerry x = new FallowFerry();
        s.due("river()", Tell.river(x, "thing 0 1 2 3;load 4;"), 2);
        s.due("count(4)", x.count(4), 0);
        s.due("river() of no bytes", x.river(), 0);
        s.due("count(0), it told all: no THINGS", x.count(0), 0);
        s.due("now(1), it told all: LOAD as at first", x.now(1), 2);
    }

    private void riverCountsItems() {
        s.holds(4, "THE TEXT tells all, and is empty then: how many ITEMS.");
        String item = "thing0 0 0 1;";
        for (int k = 0; k <= 7; k++) read(item.repeat(k), k);
        String most = item.repeat(7) + "fears0 1;".repeat(8) + "ferry0;load1;days0;frost0;";
        read(most, 19);
        read(" ".repeat(TEXT_MOST - most.length()) + most, 19);
    }

    private void faultAtEitherEnd() {
        s.holds(4, "-10 less FAULT: nothing changes (THE TEXT, too, stays).");
        fault("|;");
        fault(" |;");
        fault("load 1;" + " ".repeat(192) + "|;");
        fault("load 1" + " ".repeat(194) + "|");
    }

    private void faultChangesNothing() {
        s.holds(4, "-10 less FAULT: nothing changes (THE TEXT, too, stays).");
        FallowFerry x = Tell.ferry(Rivers.WOLF + "frost 9;days 7;");
        Nights.freeze(x, 3);
        x.cross(2);
        x.saw(1, 1, 1);
        x.keep(0);
        x.mark(0, 2);
        x.lot(99);
        Tell.type(x, "thing 1 0 9 9;ferry 1;load 9;days 1;frost 0;fears 0 0;");
        s.due("river()", x.river(), -10 - 52);
        s.due("river() again", x.river(), -10 - 52);
        int[] now = {1, 1, 6, 3, 5, 5, 1};
        for (int k = 0; k < now.length; k++) s.due("now(" + k + ")", x.now(k), now[k]);
        int[] counts = {3, 2, 1, 1, 54};
        for (int k = 0; k < counts.length; k++) s.due("count(" + k + ")", x.count(k), counts[k]);
        int[] thing = {0, 1, 3, 1, 2};
        for (int k = 0; k < thing.length; k++) s.due("thing(0, " + k + ")", x.thing(0, k), thing[k]);
        s.due("trace()", x.trace(), 1);
        s.due("lot(5)", x.lot(5), 99);
        s.due("night() of DRAW 8: FROST is 9", Nights.drawing(x, 8), 4);
        s.due("back(0)", x.back(0), 6);
        s.due("undo()", x.undo(), 0);
        s.due("clear(), all bytes stayed", x.clear(), 54);
    }

    // ---- things, as the terms tell them

    private void sevenThings() {
        s.holds(4, "(7 of them at most)");
        String item = "thing 1 2 3 4;";
        for (int k = 0; k <= 7; k++) {
            FallowFerry x = Tell.ferry(item.repeat(k));
            s.due("count(0) of " + k, x.count(0), k);
            if (k > 0) s.due("the last one's WEIGHT", x.thing(k - 1, 3), 4);
            s.due("one more", x.thing(k, 3), BAD);
        }
        fault(item.repeat(7) + "|thing 1 2 3 4;");
        fault(item.repeat(7) + "|thing");
        fault(item.repeat(7) + "|thing 9 x");
        read(item.repeat(7) + "load 5;fears 0 6;", 9);
    }

    private void banks() {
        s.holds(4, "BANK (0, 1)");
        takes("thing ", " 0 0 1;", 0, 1);
        takes("load 3;thing 0 0 0 1;thing ", " 2 9 9;days 1;", 0, 1);
        FallowFerry x = Tell.ferry("thing 0 2 0 1;thing 1 2 0 1;");
        s.due("thing(0, 0)", x.thing(0, 0), 0);
        s.due("thing(1, 0)", x.thing(1, 0), 1);
    }

    private void wants() {
        s.holds(4, "WANTS (0, 1; 2: either)");
        takes("thing 0 ", " 0 1;", 0, 2);
        FallowFerry x = Tell.ferry("thing 0 0 1 1;thing 0 1 1 1;thing 0 2 1 1;thing 1 0 1 1;thing 1 1 1 1;thing 1 2 1 1;");
        for (int t = 0; t < 6; t++) s.due("thing(" + t + ", 1)", x.thing(t, 1), t % 3);
        s.due("now(4): either is never WRONG", x.now(4), 2 + 8);
        s.due("now(5)", x.now(5), 2);
    }

    private void rents() {
        s.holds(4, "RENT (0 .. 9, for each year on the wrong BANK)");
        takes("thing 0 0 ", " 1;", 0, 9);
        FallowFerry x = Tell.ferry("thing 0 1 0 1;thing 0 1 9 1;");
        s.due("thing(0, 2)", x.thing(0, 2), 0);
        s.due("thing(1, 2)", x.thing(1, 2), 9);
        s.due("now(5)", x.now(5), 9);
        s.due("now(4): WRONG, though of RENT 0", x.now(4), 3);
    }

    private void weights() {
        s.holds(4, "WEIGHT (1 .. 9)");
        takes("thing 0 0 0 ", ";", 1, 9);
        FallowFerry x = Tell.ferry("thing 0 0 0 1;thing 0 0 0 9;");
        s.due("thing(0, 3)", x.thing(0, 3), 1);
        s.due("thing(1, 3)", x.thing(1, 3), 9);
    }

    private void eightPairs() {
        s.holds(4, "FEARS (8 pairs at most)");
        String two = "thing 0 0 0 1;thing 0 0 0 1;";
        for (int k = 0; k <= 8; k++) {
            FallowFerry x = Tell.ferry(two + "fears 0 1;".repeat(k));
            s.due("count(1) of " + k, x.count(1), k);
            s.due("thing(0, 4)", x.thing(0, 4), k == 0 ? 0 : 2);
        }
        fault(two + "fears 0 1;".repeat(8) + "|fears 1 0;");
        fault(two + "fears 0 1;".repeat(8) + "|fears");
        fault(two + "fears 0 1;".repeat(8) + "|fears 9 x");
        String unlike = "";
        for (int t = 1; t < 7; t++) unlike += "fears0 " + t + ";";
        FallowFerry x = Tell.ferry("thing0 0 0 1;".repeat(7) + unlike + "fears6 5;fears5 4;");
        s.due("count(1) of eight unlike pairs", x.count(1), 8);
        s.due("thing(0, 4)", x.thing(0, 4), 126);
        s.due("thing(5, 4)", x.thing(5, 4), 1 + 64 + 16);
    }

    private void ferry() {
        s.holds(4, "THE FERRY is at a BANK (0 at first)");
        takes("ferry ", ";", 0, 1);
        s.due("now(0), not told", Tell.ferry("").now(0), 0);
        s.due("now(0), told 0", Tell.ferry("ferry 0;").now(0), 0);
        s.due("now(0), told 1", Tell.ferry("ferry 1;").now(0), 1);
    }

    private void load() {
        s.holds(4, "LOAD (1 .. 20; 2 at first)");
        takes("load ", ";", 1, 20);
        s.due("now(1), not told", Tell.ferry("").now(1), 2);
        for (int n = 1; n <= 20; n++) s.due("now(1)", Tell.ferry("load " + n + ";").now(1), n);
    }

    private void days() {
        s.holds(4, "DAYS that are left (0 .. 20; 9 at first)");
        takes("days ", ";", 0, 20);
        s.due("now(2), not told", Tell.ferry("").now(2), 9);
        for (int n = 0; n <= 20; n++) s.due("now(2)", Tell.ferry("days " + n + ";").now(2), n);
    }

    private void frost() {
        s.holds(4, "FROST (0 .. 9 in 10; 5 at first)");
        takes("frost ", ";", 0, 9);
        for (int frost = -1; frost <= 9; frost++) {
            FallowFerry x = Tell.ferry(frost < 0 ? "" : "frost " + frost + ";");
            int freezing = frost < 0 ? 5 : frost;
            int more = 0;
            for (int draw = 0; draw <= 9; draw++) {
                int ice = x.now(3);
                more += Nights.drawing(x, draw) > ice ? 1 : 0;
            }
            s.due("nights of ten with more ICE, frost " + (frost < 0 ? "not told" : "" + frost), more, freezing);
        }
    }

    private void whatIsNotTold() {
        s.holds(4, "(what is not told as at first)");
        FallowFerry x = Tell.ferry("thing 0 1 2 3;ferry 1;load 20;days 20;frost 9;");
        Tell.river(x, " ");
        int[] now = {0, 2, 9, 0, 0, 0, 1};
        for (int k = 0; k < now.length; k++) s.due("now(" + k + ")", x.now(k), now[k]);
        s.due("count(0)", x.count(0), 0);
        s.due("night() of DRAW 5", Nights.drawing(x, 5), 0);
        s.due("night() of DRAW 4", Nights.drawing(x, 4), 1);
    }

    // ---- the text, as the terms tell it

    private void twoHundredBytes() {
        s.holds(4, "They are a text (200 bytes at most), read byte by byte");
        String item = "days 13;";
        read(" ".repeat(TEXT_MOST - item.length()) + item, 1);
        read(item + " ".repeat(TEXT_MOST - item.length()), 1);
        FallowFerry x = Tell.ferry(" ".repeat(TEXT_MOST - item.length()) + item);
        s.due("now(2), told by the last bytes", x.now(2), 13);
        fault(" ".repeat(TEXT_MOST - 1) + "|x");
        fault(" ".repeat(TEXT_MOST - 7) + "load 11|");
        fault("|" + "a".repeat(TEXT_MOST));
        fault("load |" + "1".repeat(TEXT_MOST - 5));
        fault("|" + ";".repeat(TEXT_MOST));
    }

    private void blanks() {
        s.holds(4, "blanks (32) ahead of, between and behind TOKENS as may be");
        read("   thing   1   2   3   4   ;   load   5   ;   ", 2);
        for (int length : new int[] {0, 1, 2, 199, 200}) read(" ".repeat(length), 0);
        for (int b : new int[] {0, 9, 10, 11, 12, 13, 31, 33, 127, 128, 133, 160, 255}) {
            fault("|" + (char) b + "load 5;");
            fault("load|" + (char) b + "5;");
            fault("load 5|" + (char) b + ";");
            fault("load 5;|" + (char) b);
        }
        fault("lo ad 5;", 0);
        fault("load 1 |5;");
    }

    private void noBlanksNeeded() {
        s.holds(4, "(none needed where TOKENS end without)");
        FallowFerry x = new FallowFerry();
        s.due("river()", Tell.river(x, "thing1 2 3 4;thing0 0 0 1;fears0 1;ferry1;load20;days17;frost9;"), 7);
        int[] now = {1, 20, 17, 0, 0, 0, 1};
        for (int k = 0; k < now.length; k++) s.due("now(" + k + ")", x.now(k), now[k]);
        fault("load 5|days 3;");
        fault("thing 0 0|x");
        fault("|loaddays 3;");
        fault("thing 0 |12 3;");
    }

    private void noItems() {
        s.holds(4, "ITEMS (none, too), each ended by ;");
        read("", 0);
        read(" ", 0);
        read("load 5;", 1);
        fault("load 5|");
        fault("load 5; days 5|");
        fault("load 5|days 5;");
        fault("load 5;|;");
        fault("|;load 5;");
        fault("thing 1 2 3 4|fears");
        fault("thing 1 2 3 4 |5;");
    }

    private void numbersInOrder() {
        s.holds(4, ": thing B W R H ; fears A B");
        FallowFerry x = new FallowFerry();
        s.due("river()", Tell.river(x, "thing 1 2 3 4;thing 0 1 9 8;thing 1 0 2 5;fears 0 2;"), 4);
        int[][] told = {{1, 2, 3, 4, 4}, {0, 1, 9, 8, 0}, {1, 0, 2, 5, 1}};
        for (int t = 0; t < 3; t++) {
            for (int k = 0; k < 5; k++) s.due("thing(" + t + ", " + k + ")", x.thing(t, k), told[t][k]);
        }
        fault("thing |2 1;");
        fault("thing 1 2 3|; 4;");
    }

    private void thingsToldAhead() {
        s.holds(4, "fears A B (THINGS told ahead, unlike; told again: well, counted again)");
        String thing = "thing 0 0 0 1;";
        for (int things = 0; things <= 7; things++) {
            String all = thing.repeat(things);
            fault(all + "fears |" + things + " 0;");
            if (things > 0) fault(all + "fears 0 |" + things + ";");
            if (things > 1) read(all + "fears 0 " + (things - 1) + ";", things + 1);
            if (things > 1) read(all + "fears " + (things - 1) + " 0;", things + 1);
        }
        fault("fears |0 1;" + thing + thing);
        fault(thing + "fears 0 |1;" + thing);
        fault(thing + "fears |1 0;" + thing);
        read(thing + thing + "fears 0 1;" + thing + "fears 2 1;", 5);
    }

    private void unlike() {
        s.holds(4, "a B that is A");
        String things = "thing 0 0 0 1;".repeat(7);
        for (int t = 0; t < 7; t++) fault(things + "fears " + t + " |" + t + ";");
        fault(things + "fears |7 7;");
        fault(things + "fears 3 |3");
        fault(things + "fears 3 |3 3");
    }

    private void toldAgain() {
        s.holds(4, "told again: well, counted again");
        FallowFerry x = Tell.ferry("thing 0 0 0 1;".repeat(3) + "fears 0 1;fears 0 1;fears 1 0;fears 2 1;");
        s.due("count(1)", x.count(1), 4);
        int[] feared = {2, 5, 2};
        for (int t = 0; t < 3; t++) s.due("thing(" + t + ", 4)", x.thing(t, 4), feared[t]);
    }

    private void onceEach() {
        s.holds(4, "ferry B, load N, days N, frost N (once each at most)");
        for (String word : new String[] {"ferry", "load", "days", "frost"}) {
            read(word + " 1;", 1);
            fault(word + " 1;|" + word + " 1;");
            fault(word + " 1;|" + word);
            fault(word + " 1;|" + word + " 99 x");
            fault(word + " 1; thing 0 0 0 1;  |" + word + " 0;");
            for (String other : new String[] {"ferry", "load", "days", "frost"}) {
                if (!other.equals(word)) fault(word + " 1;" + other + " 1;|" + word + " 1;");
            }
        }
        read("frost 1;days 1;load 1;ferry 1;", 4);
        FallowFerry x = Tell.ferry("load 3;");
        s.due("river(), once in each text", Tell.river(x, "load 4;"), 1);
        s.due("river(), behind a FAULT", Tell.river(x, "load 5;x"), -17);
        x.clear();
        s.due("river(), once in each text", Tell.river(x, "load 6;"), 1);
        s.due("now(1)", x.now(1), 6);
    }

    private void words() {
        s.holds(4, "TOKENS are words of letters a .. z (thing, fears, ferry, load, days, frost), NUMBERS and ; .");
        for (String word : new String[] {"thing", "fears", "ferry", "load", "days", "frost"}) {
            String ahead = "thing 0 0 0 1;thing 0 0 0 1;";
            String numbers = word.equals("thing") ? " 0 0 0 1;" : word.equals("fears") ? " 0 1;" : " 1;";
            read(ahead + word + numbers, 3);
            fault("load |" + word + numbers);
        }
    }

    private void wordsThatAreNone() {
        s.holds(4, "a word that is none of these");
        for (String word : new String[] {"thing", "fears", "ferry", "load", "days", "frost"}) {
            String numbers = word.equals("thing") ? " 0 0 0 1;" : word.equals("fears") ? " 0 1;" : " 1;";
            int last = word.length() - 1;
            fault("|" + word.substring(1) + numbers);
            fault("|" + word.substring(0, last) + numbers);
            for (char more = 'a'; more <= 'z'; more++) fault("|" + word + more + numbers);
            fault("|z" + word + numbers);
            for (int k = 0; k <= last; k++) {
                fault("|" + word.substring(0, k) + "z" + word.substring(k + 1) + numbers);
                fault("|" + word.substring(0, k) + "q" + word.substring(k + 1) + numbers);
            }
            fault("|" + word.toUpperCase() + numbers);
            fault("|" + word.substring(0, 1).toUpperCase() + word.substring(1) + numbers);
            fault("|" + word.substring(0, last) + word.substring(last).toUpperCase() + numbers);
        }
        fault("|a");
        fault("|z");
        fault("thing 0 |thin");
    }

    private void bytesThatBeginNone() {
        s.holds(4, "of a byte that begins none");
        for (int b = 0; b <= 255; b++) {
            boolean begins = b == ' ' || b == ';' || b >= 'a' && b <= 'z' || b >= '0' && b <= '9';
            if (begins) continue;
            FallowFerry x = new FallowFerry();
            String text = "load" + (char) b + "5;";
            s.due("river() with a byte " + b, Tell.river(x, text), -14);
            x.clear();
            s.due("river() with a byte " + b + " alone", Tell.river(x, " " + (char) b), -11);
        }
        fault("days 5|`;");
        fault("days 5|{;");
        fault("days 5|/;");
        fault("days 5|:;");
        fault("days 5|<;");
        fault("days |-5;");
        fault("days |+5;");
        fault("days 5|.0;");
    }

    private void numbers() {
        s.holds(4, "a NUMBER above 99 or with a 0 ahead of others, that TOKEN's");
        String[] faulty = {"00", "01", "05", "09", "000", "001", "010", "099", "0000000001", "100", "101", "105", "256",
            "257", "261", "999", "65537", "65541", "4294967296", "4294967297", "4294967301", "18446744073709551621",
            "9223372036854775807", "5".repeat(100)};
        String two = "thing 0 0 0 1;thing 0 0 0 1;";
        String[][] places = {{"thing ", " 0 0 1;"}, {"thing 0 ", " 0 1;"}, {"thing 0 0 ", " 1;"}, {"thing 0 0 0 ", ";"},
            {two + "fears ", " 1;"}, {two + "fears 1 ", ";"}, {"ferry ", ";"}, {"load ", ";"}, {"days ", ";"},
            {"frost ", ";"}, {"", ""}, {"days 5 ", ";"}, {"days 5;", ""}};
        for (String number : faulty) {
            for (String[] place : places) fault(place[0] + "|" + number + place[1]);
        }
        fault("days |99;");
        read("days 10;", 1);
        read("days 0;", 1);
        read("days 20;", 1);
    }

    private void firstFault() {
        s.holds(4, "FAULT: the place of the first byte of the first TOKEN that can't stand there");
        fault("load |0;load 0;");
        fault("load |21;x");
        fault("load 5 |5 ?");
        fault("load |x 0;");
        fault("|? load 0;");
        fault("days 5;load|0 ;");
        fault("thing |2 3 10 0");
        fault("thing 1 |3 10 0");
        fault("thing 1 2 |10 0");
        fault("thing 1 2 9 |0");
        fault("thing |; fears 0 0;");
        fault("thing 1 |; 2 3;");
        fault("thing |thing 1 2 3 4;");
        fault("  |12 load 5;");
    }

    private void faultsThatAreWellSpelt() {
        s.holds(4, "(an eighth thing, a ninth pair, a B that is A, what is told again that may not, "
            + "a NUMBER beyond what it may be, too)");
        String two = "thing 0 0 0 1;thing 0 0 0 1;";
        fault("thing 0 0 0 1;".repeat(7) + " |thing 0 0 0 1;");
        fault(two + "fears 0 1;".repeat(8) + " |fears 0 1;");
        fault(two + "fears 1 |1;");
        fault("ferry 1; |ferry 1;");
        fault("load 20; |load 20;");
        fault("days 20; |days 20;");
        fault("frost 9; |frost 9;");
        fault("thing |2 0 0 1;");
        fault("thing 0 |3 0 1;");
        fault("thing 0 0 |10 1;");
        fault("thing 0 0 0 |10;");
        fault("thing 0 0 0 |0;");
        fault(two + "fears |2 0;");
        fault(two + "fears 0 |2;");
        fault("ferry |2;");
        fault("load |0;");
        fault("load |21;");
        fault("days |21;");
        fault("frost |10;");
    }

    private void firstFaultOfCut(String text, int length, int due) {
        String cut = text.substring(0, length);
        s.due("river() of [" + cut + "]", Tell.river(new FallowFerry(), cut), due);
    }

    private void endsTooEarly() {
        s.holds(4, "the text's length, if it ends too early.");
        String text = "thing 0 1 2 3;load 17;";
        // of words that are cut it is their own place; 1 of 17 is a NUMBER, too
        int[] places = {-1, 0, 0, 0, 0, 5, 6, 7, 8, 9, 10, 11, 12, 13, -1, 14, 14, 14, 18, 19, 20, 21, -1};
        for (int k = 0; k < places.length; k++) {
            int items = k == 22 ? 2 : k == 14 ? 1 : 0;
            firstFaultOfCut(text, k, places[k] < 0 ? items : -10 - places[k]);
        }
        fault("thing 0 1 2 3   |");
        fault("thing    |");
        fault("load 5;days 5;frost 5 |");
    }

    private void notSafe() {
        s.holds(4, "(What is told need not be SAFE.)");
        FallowFerry x = new FallowFerry();
        s.due("river()", Tell.river(x, "thing 0 0 0 1;thing 0 0 0 1;fears 0 1;ferry 1;"), 4);
        s.due("now(6)", x.now(6), 0);
        s.due("now(0)", x.now(0), 1);
        s.due("river()", Tell.river(x, "thing 1 0 0 1;thing 1 0 0 1;fears 0 1;"), 3);
        s.due("now(6)", x.now(6), 0);
    }

    private void readAnew() {
        s.holds(4, "ICE 0, nothing SEEN or to be UNDONE, IMAGES are gone; THE LOT, 1 at first, stays; THE TRACE stays.");
        FallowFerry x = new FallowFerry();
        s.due("lot(1)", x.lot(1), 1);
        String text = "thing 0 1 2 3;frost 9;load 9;";
        Tell.river(x, text);
        Nights.freeze(x, 9);
        for (int k = 0; k < 8; k++) x.saw(0, 0, 0);
        x.rest();
        x.cross(1);
        x.keep(0);
        x.keep(1);
        x.mark(4, 0);
        x.lot(Integer.MIN_VALUE);
        s.due("river()", Tell.river(x, text), 3);
        s.due("now(3)", x.now(3), 0);
        s.due("now(2)", x.now(2), 9);
        s.due("now(0)", x.now(0), 0);
        s.due("thing(0, 0)", x.thing(0, 0), 0);
        s.due("count(2)", x.count(2), 0);
        s.due("count(3)", x.count(3), 0);
        s.due("undo()", x.undo(), STATE);
        s.due("back(0)", x.back(0), STATE);
        s.due("back(1)", x.back(1), STATE);
        s.due("saw(0, 0, 1), the first again", x.saw(0, 0, 1), 1);
        s.due("trace()", x.trace(), 10101);
        s.due("lot(0)", x.lot(0), Integer.MIN_VALUE);
    }

    /** Nothing of earlier texts may come again, of those that had a FAULT neither. */
    private void readOverAndOver() {
        s.holds(4, "(Read anew: as told (what is not told as at first)");
        FallowFerry x = new FallowFerry();
        for (int k = 0; k < 4; k++) {
            String rich = (k % 2 == 0 ? "thing1 0 9 9;" : "thing0 1 9 9;").repeat(7) + "fears0 1;fears2 1;".repeat(4)
                + "ferry1;load20;days0;frost0";
            s.due("river()", Tell.river(x, rich + (k == 2 ? "x" : ";")), k == 2 ? -10 - rich.length() : 19);
            x.clear();
            for (int j = 0; j < 2; j++) poorRiver(x);
        }
    }

    private void poorRiver(FallowFerry x) {
        s.due("river()", Tell.river(x, "thing 0 2 3 1;thing 0 1 2 1;"), 2);
        int[] now = {0, 2, 9, 0, 2, 2, 1};
        for (int k = 0; k < now.length; k++) s.due("now(" + k + ")", x.now(k), now[k]);
        int[] counts = {2, 0, 0, 0, 0};
        for (int k = 0; k < counts.length; k++) s.due("count(" + k + ")", x.count(k), counts[k]);
        int[] thing = {0, 1, 2, 1, 0};
        for (int k = 0; k < thing.length; k++) s.due("thing(1, " + k + ")", x.thing(1, k), thing[k]);
        s.due("thing(0, 4)", x.thing(0, 4), 0);
        s.due("thing(2, 0)", x.thing(2, 0), BAD);
        s.due("cross(4)", x.cross(4), BAD);
        s.due("done(0)", x.done(0), 2);
        s.due("standings()", x.standings(), 8);
        s.due("fits(2, 0)", x.fits(2, 0), 9);
        s.due("night() of DRAW 4", Nights.drawing(x, 4), 1);
    }
}
