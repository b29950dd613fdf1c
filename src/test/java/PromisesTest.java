/** For each promise of the document: ordinary inputs, the edges it names, wrong inputs. */
public final class PromisesTest {
    private static final int BAD = -1, STATE = -2, FULL = -3, NONE = -9, NO = -1000000, NOT_SO_MANY = -5;

    private static final String WOLF = Rivers.WOLF;

    private final Checks checks = new Checks();

    public static void main(String[] args) {
        PromisesTest t = new PromisesTest();
        t.aNewObject();
        t.type();
        t.clear();
        t.river();
        t.riverAnew();
        t.faultsOfTokens();
        t.faultsOfNumbers();
        t.faultsOfTooMany();
        t.thing();
        t.fearsOfEarlierRivers();
        t.now();
        t.cross();
        t.rest();
        t.night();
        t.slide();
        t.undo();
        t.lot();
        t.done();
        t.rent();
        t.least();
        t.sooner();
        t.standings();
        t.saw();
        t.forget();
        t.fits();
        t.owed();
        t.mark();
        t.keepAndBack();
        t.count();
        t.trace();
        t.checks.end();
    }

    private void due(String what, long got, long want) {
        checks.due(what, got, want);
    }

    private void aNewObject() {
        FallowFerry x = new FallowFerry();
        int[] now = {0, 2, 9, 0, 0, 0, 1};
        for (int k = 0; k < now.length; k++) due("1: now " + k, x.now(k), now[k]);
        for (int k = 0; k <= 4; k++) due("1: count " + k, x.count(k), 0);
        due("1: thing", x.thing(0, 0), BAD);
        due("1: trace", x.trace(), 0);
        due("1: lot", x.lot(7), 1);
        due("1: done", x.done(-1), 0);
        due("1: least", x.least(), 1);
        due("1: standings", x.standings(), 2);
        due("1: fits", x.fits(5, 0), 1);
        due("1: no image", x.back(0), STATE);
        due("1: no image", x.back(1), STATE);
    }

    private void type() {
        FallowFerry x = new FallowFerry();
        due("2: n 0", x.type(0, 0), BAD);
        due("2: n 9", x.type(0, 9), BAD);
        due("2: n less", x.type(0, Integer.MIN_VALUE), BAD);
        due("2: n more", x.type(0, Integer.MAX_VALUE), BAD);
        due("2: nothing typed", x.count(4), 0);
        // the upper bytes don't come; of those that come the highest is first
        due("2: lowest", x.type(Tell.bytes("XXXload "), 5), 5);
        due("2: lowest", x.type(Tell.bytes("XXXXXX7;"), 2), 7);
        due("2: told", x.river(), 1);
        due("2: told", x.now(1), 7);
        for (int k = 1; k <= 24; k++) due("2: eights", x.type(Tell.bytes("        "), 8), 8 * k);
        due("2: seven", x.type(Tell.bytes("       "), 7), 199);
        due("2: two too many", x.type(Tell.bytes("  "), 2), FULL);
        due("2: BAD ahead of FULL", x.type(0, 9), BAD);
        due("2: stays", x.count(4), 199);
        due("2: the last", x.type(Tell.bytes(" "), 1), 200);
        due("2: one too many", x.type(Tell.bytes(" "), 1), FULL);
        due("2: blanks alone", x.river(), 0);
    }

    private void clear() {
        FallowFerry x = Tell.ferry(WOLF);
        due("3: empty", x.clear(), 0);
        Tell.type(x, "load 5;");
        due("3: had", x.clear(), 7);
        due("3: empty", x.clear(), 0);
        due("3: the river stays", x.count(0), 3);
        due("3: nothing is left of it", Tell.river(x, "days 4;"), 1);
        due("3: nothing is left of it", x.now(1), 2);
    }

    private void river() {
        due("4: no ITEMS", new FallowFerry().river(), 0);
        FallowFerry x = new FallowFerry();
        due("4: items", Tell.river(x, "  thing 1 2 9 9 ;thing0 0 0 1;fears0 1;fears 1 0 ;ferry1;load20;days 0;frost 0 ; "), 8);
        due("4: text is empty", x.count(4), 0);
        due("4: things", x.count(0), 2);
        due("4: pairs are counted again", x.count(1), 2);
        due("4: ferry", x.now(0), 1);
        due("4: load", x.now(1), 20);
        due("4: days", x.now(2), 0);
        due("4: not SAFE may be told", Tell.river(x, "thing 1 0 0 1;thing 1 0 0 1;fears 0 1;"), 3);
        due("4: not SAFE", x.now(6), 0);
        due("4: things behind what is told once", Tell.river(x, "frost 9;days 20;load 1;ferry 0;thing 0 0 0 1;"), 5);
        due("4: as told", x.now(2), 20);
    }

    private void riverAnew() {
        FallowFerry x = Tell.ferry("thing 0 1 3 1;thing 1 1 3 1;fears 0 1;ferry 0;load 9;days 20;frost 9;");
        x.lot(4);
        x.night();
        x.cross(1);
        x.saw(0, 0, 0);
        x.keep(0);
        x.keep(1);
        x.mark(0, 0);
        Tell.type(x, "load 3");
        due("4: fault", x.river(), -16);
        due("4: text stays", x.count(4), 6);
        due("4: images stay", x.back(0), 19);
        due("4: load stays", x.now(1), 9);
        due("4: seen stays", x.count(2), 1);
        due("4: undo stays", x.count(3), 1);
        due("4: ice stays", x.now(3), 1);
        due("4: the text goes on", Tell.river(x, ";"), 1);
        int[] now = {0, 3, 9, 0, 0, 0, 1};
        for (int k = 0; k < now.length; k++) due("4: anew, now " + k, x.now(k), now[k]);
        for (int k = 0; k <= 4; k++) due("4: anew, count " + k, x.count(k), 0);
        due("4: images are gone", x.back(0), STATE);
        due("4: images are gone", x.back(1), STATE);
        due("4: THE TRACE stays", x.trace(), 1);
        due("4: THE LOT stays", x.lot(0), 4 * 1103515245 + 12345);
        Tell.river(x, "");
        due("4: load as at first", x.now(1), 2);
    }

    /** The fault is to be at the place of the sign |, which is not typed. */
    private void fault(String marked) {
        FallowFerry x = Tell.ferry(WOLF);
        int place = marked.indexOf('|');
        String text = marked.substring(0, place) + marked.substring(place + 1);
        due("4: " + marked, Tell.river(x, text), -10 - place);
        due("4: text stays: " + marked, x.count(4), text.length());
        due("4: river stays: " + marked, x.standings(), 10);
    }

    private void faultsOfTokens() {
        fault("|Thing 0 0 0 1;");
        fault("|\t");
        fault("  |\u00c8");
        fault("|;");
        fault("load 1;|;");
        fault("|1;");
        fault("|thin 0 0 0 1;");
        fault("|things 0 0 0 1;");
        fault("|thingload 1;");
        fault("|rost 1;");
        fault("load |load 1;");
        fault("load |;");
        fault("load 1 |2;");
        fault("load 1|d;");
        fault("load 1|,");
        fault("load 1|");
        fault("load 1  |");
        fault("load |");
        fault("load|");
        fault("|loa");
        fault("load 1;thing 0 0 0 1|");
        fault("thing 0 0 |;");
        fault("thing 0 0 0 1 |1;");
        fault("thing 0 0 |x 1;load 0;");
        fault("fears |");
        fault("thing 0 0 0 1;fears 0|");
        fault("thing 0 0 0 1;fears |;");
    }

    private void faultsOfNumbers() {
        fault("load |0;");
        fault("load |21;");
        fault("load |99;");
        fault("load |100;");
        fault("load |4294967297;");
        fault("load |01;");
        fault("load |00;");
        fault("load |-1;");
        fault("thing |2 0 0 1;");
        fault("thing 0 |3 0 1;");
        fault("thing 0 0 |10 1;");
        fault("thing 0 0 0 |0;");
        fault("thing 0 0 0 |10;");
        fault("ferry |2;");
        fault("days |21;");
        fault("frost |10;");
        fault("thing |00 0 1;");
        fault("fears |0 1;");
        fault("thing 0 0 0 1;fears |1 0;");
        fault("thing 0 0 0 1;fears 0 |1;thing 0 0 0 1;");
        fault("thing 0 0 0 1;fears 0 |0;");
        fault("thing 0 0 0 1;thing 0 0 0 1;fears 1 |1;");
    }

    private void faultsOfTooMany() {
        fault("load 1;|load 1;");
        fault("ferry 0;|ferry 0;");
        fault("days 9;|days 9;");
        fault("frost 5; |frost 5;");
        fault("load 1;|load 0;");
        fault("thing 0 0 0 1;".repeat(7) + "|thing 0 0 0 1;");
        fault("thing 0 0 0 1;".repeat(7) + "|thing");
        fault("thing 0 0 0 1;thing 0 0 0 1;" + "fears 0 1;".repeat(8) + "|fears 0 1;");
        due("4: seven things", Tell.river(new FallowFerry(), "thing 0 0 0 1;".repeat(7)), 7);
        due("4: eight pairs", Tell.river(new FallowFerry(), "thing 0 0 0 1;".repeat(2) + "fears 0 1;".repeat(8)), 10);
    }

    private void thing() {
        FallowFerry x = Tell.ferry("thing 1 2 9 8;thing 0 1 0 1;thing 0 0 1 2;fears 0 2;fears 2 1;fears 0 2;ferry 1;load 9;");
        int[][] due = {{1, 2, 9, 8, 4}, {0, 1, 0, 1, 4}, {0, 0, 1, 2, 3}};
        for (int t = 0; t < 3; t++) {
            for (int what = 0; what < 5; what++) due("5: " + t + " " + what, x.thing(t, what), due[t][what]);
        }
        due("5: none", x.thing(3, 0), BAD);
        due("5: none", x.thing(-1, 0), BAD);
        due("5: none", x.thing(Integer.MAX_VALUE, 0), BAD);
        due("5: what", x.thing(0, 5), BAD);
        due("5: what", x.thing(0, -1), BAD);
        Tell.river(x, "thing 0 0 0 1;ferry 0;");
        x.cross(1);
        due("5: as it is NOW", x.thing(0, 0), 1);
        due("5: none is feared any more", x.thing(0, 4), 0);
    }

    private void fearsOfEarlierRivers() {
        FallowFerry x = Tell.ferry(WOLF);
        for (int k = 0; k < 3; k++) {
            Tell.river(x, "thing 0 1 0 1;thing 0 1 0 1;thing 0 1 0 1;");
            for (int t = 0; t < 3; t++) due("5: anew, none is feared", x.thing(t, 4), 0);
        }
    }

    private void now() {
        FallowFerry x = Tell.ferry("thing 1 0 9 1;thing 0 1 7 1;thing 1 2 5 1;thing 1 1 3 1;fears 0 2;ferry 0;load 3;days 7;frost 9;");
        int[] now = {0, 3, 7, 0, 3, 16, 0};
        for (int k = 0; k < now.length; k++) due("6: " + k, x.now(k), now[k]);
        due("6: what", x.now(7), BAD);
        due("6: what", x.now(-1), BAD);
        x.night();
        due("6: ICE", x.now(3), 1);
        x.slide(0);
        due("6: SAFE", x.now(6), 1);
        due("6: WRONG", x.now(4), 2);
        due("6: RENT", x.now(5), 7);
    }

    private void cross() {
        FallowFerry x = Tell.ferry(WOLF);
        due("7: bits of none", x.cross(8), BAD);
        due("7: bits of none", x.cross(-1), BAD);
        due("7: bits of none", x.cross(Integer.MIN_VALUE), BAD);
        due("7: not SAFE then", x.cross(1), STATE);
        due("7: not SAFE then", x.cross(0), STATE);
        due("7: too heavy", x.cross(6), STATE);
        due("7: nothing changed", x.now(0), 0);
        due("7: the goat", x.cross(2), 8);
        due("7: bank", x.thing(1, 0), 1);
        due("7: ferry", x.now(0), 1);
        due("7: not there", x.cross(1), STATE);
        due("7: alone", x.cross(0), 7);
        due("7: not there", x.cross(2), STATE);
        Tell.river(x, "thing 0 0 0 9;thing 0 0 0 9;load 18;days 1;");
        due("7: as heavy as LOAD", x.cross(3), 0);
        due("7: no DAY is left", x.cross(3), STATE);
        due("7: BAD ahead of STATE", x.cross(4), BAD);
        Tell.river(x, "thing 0 0 0 9;thing 0 0 0 9;load 17;");
        due("7: heavier by one", x.cross(3), STATE);
        Tell.river(x, "thing 0 0 0 1;thing 0 0 0 1;fears 0 1;ferry 1;");
        due("7: may leave what was not SAFE", x.cross(0), 8);
    }

    private void rest() {
        FallowFerry x = Tell.ferry("thing 0 0 0 1;thing 0 0 0 1;fears 0 1;ferry 1;days 2;");
        due("8: one less", x.rest(), 1);
        due("8: one less", x.rest(), 0);
        due("8: none was", x.rest(), STATE);
        due("8: may be UNDONE", x.count(3), 2);
        due("8: the ferry stays", x.now(0), 1);
    }

    private void night() {
        FallowFerry x = Tell.ferry("frost 9;");
        int lot = nights("9: night of FROST 9", x, 9);
        nights("9: night of the FROST at first", new FallowFerry(), 5);
        due("9: no DAY goes by", x.now(2), 9);
        due("9: not to be UNDONE", x.count(3), 0);
        due("9: THE LOT", x.lot(1), lot);
        Tell.river(x, "frost 0;");
        for (int k = 0; k < 20; k++) due("9: no FROST", x.night(), 0);
    }

    private int nights(String what, FallowFerry x, int frost) {
        int lot = 1;
        int ice = 0;
        for (int k = 0; k < 100; k++) {
            lot = lot * 1103515245 + 12345;
            ice = (lot >>> 16) % 10 < frost ? Math.min(9, ice + 1) : Math.max(0, ice - 1);
            due(what + ", " + k, x.night(), ice);
        }
        return lot;
    }

    /** Nights of FROST 9 till ICE is as much. */
    private static void freeze(FallowFerry x, int ice) {
        for (int k = 0; k < 60 && x.now(3) != ice; k++) x.night();
    }

    private void slide() {
        FallowFerry x = Tell.ferry("thing 0 1 0 2;thing 0 1 0 1;thing 1 1 0 1;fears 0 2;fears 1 0;days 0;frost 9;");
        due("10: none", x.slide(3), BAD);
        due("10: none", x.slide(-1), BAD);
        due("10: no ICE", x.slide(1), STATE);
        freeze(x, 1);
        due("10: too heavy", x.slide(0), STATE);
        due("10: borne", x.slide(1), 1);
        due("10: no DAY goes by", x.now(2), 0);
        due("10: the ferry stays", x.now(0), 0);
        freeze(x, 2);
        due("10: not SAFE then", x.slide(0), STATE);
        due("10: from the other BANK", x.slide(1), 0);
        due("10: and again", x.slide(2), 0);
        due("10: SAFE by now", x.slide(0), 1);
        due("10: may be UNDONE", x.count(3), 4);
    }

    private void undo() {
        FallowFerry x = Tell.ferry("thing 0 1 0 1;days 20;frost 9;");
        due("11: none", x.undo(), STATE);
        x.cross(1);
        x.rest();
        freeze(x, 1);
        x.slide(0);
        due("11: the SLIDE", x.undo(), 2);
        due("11: bank", x.thing(0, 0), 1);
        due("11: ICE stays", x.now(3), 1);
        due("11: DAYS stay", x.now(2), 18);
        due("11: the DAY", x.undo(), 1);
        due("11: days", x.now(2), 19);
        due("11: the CROSSING", x.undo(), 0);
        due("11: days", x.now(2), 20);
        due("11: ferry", x.now(0), 0);
        due("11: bank", x.thing(0, 0), 0);
        due("11: none any more", x.undo(), STATE);
        for (int k = 1; k <= 12; k++) {
            x.cross(1);
            due("11: ten are known", x.count(3), Math.min(k, 10));
        }
        for (int k = 9; k >= 0; k--) {
            due("11: of ten", x.undo(), k);
            due("11: days of ten", x.now(2), 20 - 2 - k);
        }
        due("11: older ones are lost", x.undo(), STATE);
    }

    private void lot() {
        FallowFerry x = new FallowFerry();
        due("12: at first", x.lot(Integer.MIN_VALUE), 1);
        due("12: was", x.lot(-1), Integer.MIN_VALUE);
        x.night();
        due("12: goes on, wrapped", x.lot(0), -1103515245 + 12345);
    }

    private void plan(String what, FallowFerry x, int... sets) {
        due(what + ": how many", x.done(-1), sets.length);
        for (int k = 0; k < sets.length; k++) due(what + ": set " + k, x.done(k), sets[k]);
        due(what + ": not so many", x.done(sets.length), NOT_SO_MANY);
        due(what + ": not so many", x.done(Integer.MAX_VALUE), NOT_SO_MANY);
    }

    private void done() {
        FallowFerry x = Tell.ferry(WOLF + "days 0;");
        plan("13: the first, whatever DAYS", x, 2, 0, 1, 2, 4, 0, 2);
        due("13: BAD", x.done(-2), BAD);
        due("13: nothing is changed", x.now(4), 7);
        Tell.river(x, "thing 0 1 0 3;");
        due("13: NONE", x.done(-1), NONE);
        due("13: NONE", x.done(0), NONE);
        due("13: BAD ahead of NONE", x.done(-2), BAD);
        Tell.river(x, "thing 0 2 5 9;thing 1 1 0 9;");
        plan("13: as all want", x);
        Tell.river(x, "thing 0 1 0 1;thing 0 2 0 1;thing 1 0 0 1;ferry 0;load 3;");
        plan("13: the less set is first", x, 1, 4);
        x.cross(0);
        plan("13: from NOW", x, 4, 1);
    }

    private void rent() {
        FallowFerry x = Tell.ferry(WOLF + "days 0;");
        int[] least = {10, 5, 5, 2, 2, 2, 2, 0, 0};
        for (int d = 0; d < least.length; d++) due("14: by " + d, x.rent(d, -1), least[d]);
        due("14: fewest CROSSINGS", x.rent(2, 0), 2);
        due("14: fewest CROSSINGS", x.rent(2, 1), NOT_SO_MANY);
        int[] sets = {2, 0, 1};
        for (int k = 0; k < 3; k++) due("14: set " + k, x.rent(6, k), sets[k]);
        due("14: not so many", x.rent(6, 3), NOT_SO_MANY);
        due("14: by none", x.rent(0, 0), NOT_SO_MANY);
        due("14: BAD", x.rent(-1, -1), BAD);
        due("14: BAD", x.rent(21, -1), BAD);
        due("14: BAD", x.rent(0, -2), BAD);
        due("14: by 20", x.rent(20, -1), 0);
        Tell.river(x, "thing 0 1 4 9;");
        due("14: what can't be DONE", x.rent(20, -1), 4);
        due("14: what can't be DONE", x.rent(20, 0), NOT_SO_MANY);
        Tell.river(x, "thing 0 1 0 1;thing 0 1 4 1;load 1;");
        due("14: who pays none may stay", x.rent(20, 0), 2);
        due("14: who pays none may stay", x.rent(20, 1), NOT_SO_MANY);
    }

    private void least() {
        FallowFerry x = Tell.ferry(WOLF + "days 0;");
        due("15: wolf", x.least(), 1);
        Tell.river(x, "thing 0 1 0 9;load 1;");
        due("15: the heaviest", x.least(), 9);
        due("15: LOAD stays", x.now(1), 1);
        Tell.river(x, "thing 0 1 0 9;thing 0 1 0 9;thing 0 1 0 2;fears 0 1;fears 0 2;fears 1 2;load 1;");
        due("15: two at once", x.least(), 11);
        Tell.river(x, "thing 0 1 0 9;thing 0 1 0 9;thing 0 1 0 9;fears 0 1;fears 0 2;fears 1 2;load 20;");
        due("15: two at once", x.least(), 18);
        Tell.river(x, "thing 0 1 0 9;thing 0 1 0 9;thing 0 1 0 9;thing 0 1 0 9;fears 0 1;fears 2 3;fears 0 2;fears 1 3;fears 0 3;fears 1 2;");
        due("15: NONE", x.least(), NONE);
        Tell.river(x, "thing 0 0 0 9;");
        due("15: all are where they want", x.least(), 1);
    }

    private void sooner() {
        FallowFerry x = Tell.ferry(WOLF + "days 0;");
        for (int t = 0; t < 3; t++) due("16: wolf " + t, x.sooner(t), 4);
        due("16: none", x.sooner(3), NO);
        due("16: none", x.sooner(-1), NO);
        Tell.river(x, "thing 0 1 0 3;thing 0 1 0 1;");
        due("16: not with it", x.sooner(0), NO);
        due("16: not with it, nor without", x.sooner(1), NO);
        Tell.river(x, "thing 0 2 0 1;thing 0 1 0 1;");
        due("16: no sooner", x.sooner(0), 0);
        due("16: none is WRONG without", x.sooner(1), 1);
        due("16: nothing is changed", x.count(0), 2);
    }

    private void standings() {
        FallowFerry x = Tell.ferry(WOLF + "days 0;");
        due("17: wolf", x.standings(), 10);
        Tell.river(x, "thing 0 1 0 9;load 8;");
        due("17: the ferry alone", x.standings(), 2);
        Tell.river(x, "thing 0 1 0 9;thing 0 1 0 9;fears 0 1;load 8;");
        due("17: this one alone", x.standings(), 1);
        Tell.river(x, "thing 0 1 0 9;thing 0 1 0 9;fears 0 1;load 8;ferry 1;");
        due("17: this one, not SAFE, and one", x.standings(), 2);
        x.cross(0);
        due("17: from NOW", x.standings(), 1);
    }

    private void saw() {
        FallowFerry x = Tell.ferry(WOLF);
        due("18: c", x.saw(-1, 0, 0), BAD);
        due("18: c", x.saw(6, 0, 0), BAD);
        due("18: t", x.saw(0, -1, 0), BAD);
        due("18: t", x.saw(0, 3, 0), BAD);
        due("18: bank", x.saw(0, 0, -1), BAD);
        due("18: bank", x.saw(0, 0, 2), BAD);
        for (int k = 1; k <= 8; k++) due("18: how much", x.saw(k % 6, 2, k % 2), k);
        due("18: FULL", x.saw(0, 0, 0), FULL);
        due("18: BAD ahead of FULL", x.saw(0, 3, 0), BAD);
        due("18: still", x.count(2), 8);
    }

    private void forget() {
        FallowFerry x = Tell.ferry(WOLF);
        due("19: nothing", x.forget(), 0);
        x.saw(1, 1, 0);
        x.saw(1, 1, 0);
        due("19: two", x.forget(), 2);
        due("19: nothing any more", x.forget(), 0);
        due("19: all fits", x.fits(1, 0), 1);
    }

    private void fits() {
        FallowFerry x = Tell.ferry(WOLF + "days 0;");
        long[] ways = {1, 1, 2, 4, 8, 18};
        for (int n = 0; n <= 5; n++) due("20: of " + n, x.fits(n, 0), ways[n]);
        due("20: n", x.fits(-1, 0), BAD);
        due("20: n", x.fits(6, 0), BAD);
        due("20: c", x.fits(2, 3), BAD);
        due("20: c", x.fits(2, -1), BAD);
        due("20: c", x.fits(0, 1), BAD);
        due("20: aboard", x.fits(1, 1), 2);
        due("20: aboard", x.fits(2, 2), 2);
        due("20: aboard", x.fits(3, 3), 7);
        x.saw(3, 0, 1);
        due("20: behind 2 at most", x.fits(2, 0), 2);
        due("20: behind 3", x.fits(3, 0), 1);
        due("20: in the third", x.fits(3, 3), 1);
        due("20: in the second", x.fits(3, 2), 0);
        x.saw(5, 1, 1);
        due("20: who goes back then", x.fits(5, 4), 3);
        x.saw(0, 0, 1);
        due("20: not as told", x.fits(0, 0), 0);
        due("20: not as told", x.fits(5, 1), 0);
        Tell.river(x, "thing 0 1 0 1;");
        x.cross(1);
        due("20: from the beginning", x.fits(1, 0), 2);
        x.saw(0, 0, 0);
        due("20: from the beginning", x.fits(1, 1), 1);
    }

    private void owed() {
        FallowFerry x = Tell.ferry("thing 0 1 9 1;thing 0 2 9 1;thing 0 0 9 1;days 0;");
        long owes = 0;
        for (int y = 0; y <= 50; y++) {
            due("21: by " + y, x.owed(0, y), owes);
            owes += owes / 10;
            owes += 9;
        }
        due("21: 3 years", x.owed(0, 3), 28);
        due("21: either", x.owed(1, 50), 0);
        due("21: not WRONG", x.owed(2, 50), 0);
        due("21: t", x.owed(3, 1), BAD);
        due("21: t", x.owed(-1, 1), BAD);
        due("21: y", x.owed(0, -1), BAD);
        due("21: y", x.owed(0, 51), BAD);
        due("21: y of who owes none", x.owed(2, 51), BAD);
        Tell.river(x, "thing 0 1 9 1;");
        x.cross(1);
        due("21: as it stands", x.owed(0, 1), 0);
    }

    private void mark() {
        FallowFerry x = Tell.ferry("thing 0 0 0 1;thing 0 1 8 9;thing 0 0 0 1;fears 0 1;fears 1 0;fears 2 1;frost 9;");
        freeze(x, 1);
        freeze(x, 2);
        int[] due = {8, 17, 6, 34, 7, 10};
        long[] traces = {1, 11, 101, 1011, 10101, 100001};
        long sum = 0;
        for (int kind = 0; kind <= 5; kind++) {
            due("22: kind " + kind, x.mark(kind, 1), due[kind]);
            sum += traces[kind];
            due("26: kind " + kind, x.trace(), sum);
        }
        due("22: below 0", x.mark(2, 0), -1);
        due("22: below 0", x.mark(4, 2), 1);
        sum = x.trace();
        due("22: kind", x.mark(6, 0), NO);
        due("22: kind", x.mark(-1, 0), NO);
        due("22: t", x.mark(0, 3), NO);
        due("22: t", x.mark(0, -1), NO);
        due("26: none was asked", x.trace(), sum);
    }

    private void keepAndBack() {
        FallowFerry x = Tell.ferry("thing 0 1 5 1;days 20;frost 9;");
        due("23: image", x.keep(2), BAD);
        due("23: image", x.keep(-1), BAD);
        due("24: image", x.back(2), BAD);
        due("24: image", x.back(-1), BAD);
        due("24: none", x.back(0), STATE);
        x.cross(1);
        freeze(x, 1);
        due("23: DAYS", x.keep(0), 19);
        due("24: the other is none", x.back(1), STATE);
        int lot = x.lot(77);
        x.lot(lot);
        x.rest();
        x.cross(1);
        freeze(x, 3);
        x.lot(77);
        due("23: DAYS", x.keep(1), 17);
        x.saw(0, 0, 0);
        x.mark(0, 0);
        x.undo();
        x.rest();
        due("24: DAYS", x.back(0), 19);
        due("24: bank", x.thing(0, 0), 1);
        due("24: ferry", x.now(0), 1);
        due("24: days", x.now(2), 19);
        due("24: ice", x.now(3), 1);
        due("24: undone", x.count(3), 1);
        due("24: lot", x.lot(5), lot);
        due("24: SEEN stays", x.count(2), 1);
        due("24: THE TRACE stays", x.trace(), 1);
        due("11: what an image knew", x.undo(), 0);
        due("11: days", x.now(2), 20);
        due("24: again", x.back(0), 19);
        due("24: again, lot", x.lot(5), lot);
        due("24: the other", x.back(1), 17);
        due("24: the other, ice", x.now(3), 3);
        due("24: the other, lot", x.lot(5), 77);
        due("11: the other's crossing", x.undo(), 2);
        due("11: the other's days", x.now(2), 18);
        due("11: the other's day", x.undo(), 1);
        due("11: the other's days", x.now(2), 19);
        due("23: kept anew", x.keep(0), 19);
        due("24: kept anew", x.back(0), 19);
        due("24: kept anew, ice", x.now(3), 3);
        keptPast();
    }

    /** What may be UNDONE is the image's own, though other days have gone by since. */
    private void keptPast() {
        FallowFerry x = Tell.ferry("thing 0 1 5 1;days 20;frost 9;");
        freeze(x, 1);
        x.rest();
        x.cross(1);
        x.rest();
        x.keep(1);
        for (int k = 0; k < 3; k++) x.undo();
        for (int k = 0; k < 3; k++) due("24: since", x.slide(0), (k + 1) % 2);
        due("24: DAYS", x.back(1), 17);
        due("11: kept past", x.undo(), 2);
        due("11: kept days", x.now(2), 18);
        due("11: kept bank", x.thing(0, 0), 1);
        due("11: kept past", x.undo(), 1);
        due("11: kept days", x.now(2), 19);
        due("11: kept bank", x.thing(0, 0), 0);
        due("11: kept ferry", x.now(0), 0);
        due("11: kept past", x.undo(), 0);
        due("11: kept days", x.now(2), 20);
    }

    private void count() {
        FallowFerry x = Tell.ferry(WOLF + "fears 1 0;");
        x.saw(0, 0, 0);
        x.saw(1, 0, 0);
        x.rest();
        x.type(32, 1);
        int[] counts = {3, 3, 2, 1, 1};
        for (int k = 0; k < counts.length; k++) due("25: " + k, x.count(k), counts[k]);
        due("25: what", x.count(5), BAD);
        due("25: what", x.count(-1), BAD);
    }

    private void trace() {
        FallowFerry x = Tell.ferry(WOLF);
        due("26: at first", x.trace(), 0);
        x.mark(3, 2);
        Tell.river(x, WOLF);
        x.mark(4, 2);
        due("26: all calls ever", x.trace(), 1011 + 10101);
        due("26: asking changes nothing", x.trace(), 11112);
    }
}
