/** The edges that the document names for plans: promises 13 to 17, and their terms. */
public final class EdgesOfPlansTest {
    private static final int BAD = -1, STATE = -2, NONE = -9, NO = -1000000, NOT_SO_MANY = -5;
    private static final int MIN = Integer.MIN_VALUE, MAX = Integer.MAX_VALUE;
    private static final int[] WOLF = {2, 0, 1, 2, 4, 0, 2};
    private static final int[] LONG =
        {16, 18, 16, 24, 20, 32, 1, 16, 18, 16, 24, 20, 48, 16, 64, 2, 16, 24, 20, 48, 16};
    private static final int[] LONG_BY_20 =
        {16, 18, 16, 24, 20, 32, 1, 16, 18, 16, 24, 20, 48, 16, 64, 2, 16, 24, 20, 48};

    private final Sentences s = new Sentences();

    public static void main(String[] args) {
        EdgesOfPlansTest t = new EdgesOfPlansTest();
        t.doneOfNoCrossing();
        t.doneOfWhich();
        t.doneOfMany();
        t.doneNever();
        t.fromNow();
        t.whateverDays();
        t.noIce();
        t.nothingIsChanged();
        t.firstOfSeveral();
        t.firstOfSeveralGoals();
        t.fewestAheadOfFirst();
        t.ofLoad();
        t.rentOfWhich();
        t.rentByNone();
        t.rentByTwenty();
        t.rentAtMost();
        t.rentWithFewest();
        t.rentOfAll();
        t.rentNeverDone();
        t.rentFromNow();
        t.rentOfAnother();
        t.leastOfOne();
        t.leastOfTwenty();
        t.leastOfMore();
        t.leastWhateverLoad();
        t.soonerThatIsNone();
        t.soonerByNone();
        t.soonerByMany();
        t.soonerNever();
        t.soonerWithoutItsFears();
        t.standingsOfThisOne();
        t.standingsOfAll();
        t.standingsFromNow();
        t.s.end();
    }

    private void doneIs(String what, FallowFerry x, int... sets) {
        s.due(what + ", done(-1)", x.done(-1), sets.length);
        for (int k = 0; k < sets.length; k++) s.due(what + ", done(" + k + ")", x.done(k), sets[k]);
        for (int i : new int[] {sets.length, sets.length + 1, 255, 256, MAX}) {
            s.due(what + ", done(" + i + ")", x.done(i), NOT_SO_MANY);
        }
    }

    private void rentIs(String what, FallowFerry x, int d, int rent, int... sets) {
        String call = what + ", rent(" + d + ", ";
        s.due(call + "-1)", x.rent(d, -1), rent);
        for (int k = 0; k < sets.length; k++) s.due(call + k + ")", x.rent(d, k), sets[k]);
        for (int i : new int[] {sets.length, sets.length + 1, 255, 256, MAX}) {
            s.due(call + i + ")", x.rent(d, i), NOT_SO_MANY);
        }
    }

    // ---- promise 13

    private void doneOfNoCrossing() {
        s.holds(13, "DONE: how many CROSSINGS (i = -1), the i-th set (-5: not so many)");
        doneIs("no THINGS", new FallowFerry());
        doneIs("all either", Tell.ferry("thing 0 2 9 9;thing 1 2 9 9;fears 0 1;load 1;"));
        doneIs("all where they want", Tell.ferry("thing 0 0 9 9;thing 1 1 9 9;ferry 1;load 1;"));
        doneIs("not SAFE, but none WRONG", Tell.ferry("thing 1 1 9 9;thing 1 2 9 9;fears 0 1;load 1;"));
    }

    private void doneOfWhich() {
        s.holds(13, "DONE: how many CROSSINGS (i = -1), the i-th set (-5: not so many); NONE. BAD.");
        FallowFerry x = Tell.ferry(Rivers.WOLF);
        doneIs("the wolf", x, WOLF);
        for (int i : new int[] {-2, -3, -5, -9, -256, MIN, MIN + 1}) s.due("done(" + i + ")", x.done(i), BAD);
        doneIs("all at once", Tell.ferry(Rivers.SEVEN), 127);
        doneIs("the last", Tell.ferry("thing 0 0 0 1;".repeat(6) + "thing 0 1 0 1;"), 64);
    }

    private void doneOfMany() {
        s.holds(13, "DONE: the fewest CROSSINGS (whatever DAYS) behind which none is WRONG, by which PLAN");
        doneIs("21 CROSSINGS", Tell.ferry(Rivers.LONG), LONG);
        doneIs("27 CROSSINGS", Tell.ferry("thing 0 1 7 7;thing 0 1 7 7;thing 1 0 6 6;thing 0 1 2 2;thing 1 0 5 5;"
            + "thing 1 0 6 6;thing 1 0 5 5;fears 5 3;fears 0 3;fears 6 3;fears 3 1;fears 3 4;fears 3 2;load 8;"),
            8, 12, 8, 24, 8, 40, 8, 64, 1, 8, 12, 8, 24, 8, 40, 8, 72, 8, 2, 4, 8, 24, 8, 40, 8, 72, 8);
        doneIs("one by one", Tell.ferry("thing 0 1 1 1;".repeat(7) + "load 1;"),
            1, 0, 2, 0, 4, 0, 8, 0, 16, 0, 32, 0, 64);
    }

    private void doneNever() {
        s.holds(13, "(-5: not so many); NONE. BAD.");
        String[] never = {"thing 0 1 0 9;load 8;", "thing 0 1 0 1;thing 0 1 0 1;thing 0 1 0 1;fears 0 1;fears 1 2;"
            + "fears 0 2;load 1;", "thing 0 0 0 1;thing 0 1 0 9;load 8;", "thing 1 0 0 3;ferry 1;"};
        for (String text : never) {
            FallowFerry x = Tell.ferry(text);
            s.due("done(-1) of " + text, x.done(-1), NONE);
            s.due("done(0) of " + text, x.done(0), NONE);
            s.due("done(-2) of " + text, x.done(-2), BAD);
        }
        s.due("done(-1), LOAD as much", Tell.ferry("thing 0 1 0 9;load 9;").done(-1), 1);
    }

    private void fromNow() {
        s.holds(13, "(From NOW, by CROSSINGS alone, whatever DAYS are left, no ICE; nothing is changed.");
        FallowFerry x = Tell.ferry(Rivers.WOLF);
        for (int k = 0; k < WOLF.length; k++) {
            s.due("done(-1) behind " + k, x.done(-1), WOLF.length - k);
            s.due("done(0) behind " + k, x.done(0), WOLF[k]);
            s.due("cross(" + WOLF[k] + ")", x.cross(WOLF[k]), 8 - k);
        }
        doneIs("behind all", x);
        x.undo();
        doneIs("UNDONE", x, 2);
        x = Tell.ferry("thing 0 1 0 2;frost 9;");
        Nights.freeze(x, 2);
        doneIs("ahead of a SLIDE", x, 1);
        x.slide(0);
        doneIs("behind a SLIDE", x);
    }

    private void whateverDays() {
        s.holds(13, "by CROSSINGS alone, whatever DAYS are left");
        for (int days : new int[] {0, 1, 20}) {
            FallowFerry x = Tell.ferry(Rivers.WOLF + "days " + days + ";");
            doneIs(days + " DAYS", x, WOLF);
            rentIs(days + " DAYS", x, 7, 0, WOLF);
            s.due(days + " DAYS, least()", x.least(), 1);
            s.due(days + " DAYS, sooner(1)", x.sooner(1), 4);
            s.due(days + " DAYS, standings()", x.standings(), 10);
            s.due(days + " DAYS, fits(5, 0)", x.fits(5, 0), 18);
        }
    }

    private void noIce() {
        s.holds(13, "whatever DAYS are left, no ICE");
        FallowFerry x = Tell.ferry("thing 0 1 4 3;frost 9;");
        Nights.freeze(x, 9);
        s.due("done(-1), though it could slide", x.done(-1), NONE);
        s.due("rent(20, -1)", x.rent(20, -1), 4);
        s.due("least()", x.least(), 3);
        s.due("sooner(0)", x.sooner(0), NO);
        s.due("standings()", x.standings(), 2);
        s.due("fits(5, 0)", x.fits(5, 0), 1);
        s.due("slide(0)", x.slide(0), 1);
        s.due("done(-1)", x.done(-1), 0);
    }

    private void nothingIsChanged() {
        s.holds(13, "no ICE; nothing is changed.");
        FallowFerry x = Tell.ferry(Rivers.WOLF + "frost 9;");
        x.cross(2);
        Nights.freeze(x, 4);
        x.saw(1, 1, 1);
        x.lot(7);
        for (int k = 0; k < 2; k++) {
            doneIs("once more", x, 0, 1, 2, 4, 0, 2);
            s.due("rent(20, 2)", x.rent(20, 2), 2);
            s.due("least()", x.least(), 1);
            // the goat is over there already
            s.due("sooner(1)", x.sooner(1), 2);
            s.due("standings()", x.standings(), 10);
            s.due("fits(3, 3)", x.fits(3, 3), 7);
            int[] now = {1, 1, 8, 4, 5, 5, 1};
            for (int j = 0; j < now.length; j++) s.due("now(" + j + ")", x.now(j), now[j]);
            int[] counts = {3, 2, 1, 1, 0};
            for (int j = 0; j < counts.length; j++) s.due("count(" + j + ")", x.count(j), counts[j]);
            for (int t = 0; t < 3; t++) s.due("thing(" + t + ", 0)", x.thing(t, 0), t == 1 ? 1 : 0);
        }
        s.due("lot(0)", x.lot(0), 7);
        s.due("trace()", x.trace(), 0);
        s.due("undo()", x.undo(), 0);
    }

    private void firstOfSeveral() {
        s.holds(13, "of several the first: at the first set that differs that which is less, as a number.)");
        doneIs("the first of many", Tell.ferry(Rivers.MANY_PLANS), 3, 8, 4);
        doneIs("the first of many", Tell.ferry("thing 1 0 4 1;thing 0 2 0 1;thing 0 0 5 1;thing 0 2 9 1;"
            + "fears 1 3;fears 2 3;load 6;"), 6, 5);
        doneIs("the first of many", Tell.ferry("thing 0 1 2 3;thing 0 1 2 2;thing 1 2 7 1;thing 0 0 1 3;thing 0 2 5 2;"
            + "fears 3 4;load 6;"), 9, 8, 18);
        doneIs("1, 2 ahead of 3", Tell.ferry("thing 0 1 0 1;thing 1 0 0 1;"), 1, 2);
        doneIs("none ahead of one", Tell.ferry("thing 0 1 0 1;ferry 1;"), 0, 1);
    }

    private void firstOfSeveralGoals() {
        s.holds(13, "of several the first: at the first set that differs that which is less, as a number.)");
        doneIs("either may stay", Tell.ferry("thing 0 2 0 1;thing 0 1 0 1;thing 0 2 0 1;load 9;"), 2);
        doneIs("who FEARS must go along", Tell.ferry("thing 0 2 0 1;thing 0 1 0 1;thing 0 2 0 1;fears 0 2;load 9;"), 3);
        doneIs("the first of two either", Tell.ferry("thing 0 1 0 1;thing 0 2 0 1;thing 0 2 0 1;fears 1 2;"), 3);
    }

    private void fewestAheadOfFirst() {
        s.holds(13, "DONE: the fewest CROSSINGS");
        // 3, 0, 4, 8 would go ahead of 3, 8, 4, and 0 ahead of what is one CROSSING alone
        doneIs("fewest ahead of first", Tell.ferry(Rivers.MANY_PLANS), 3, 8, 4);
        doneIs("fewest ahead of first", Tell.ferry("thing 0 1 0 1;thing 0 1 0 1;"), 3);
    }

    private void ofLoad() {
        s.holds(13, "of WEIGHTS together LOAD at most");
        String things = "thing 0 1 1 4;thing 0 1 1 5;";
        doneIs("LOAD 9", Tell.ferry(things + "load 9;"), 3);
        doneIs("LOAD 8", Tell.ferry(things + "load 8;"), 1, 0, 2);
        s.due("LOAD 4, done(-1)", Tell.ferry(things + "load 4;").done(-1), NONE);
        s.due("LOAD 9, standings()", Tell.ferry(things + "load 9;").standings(), 8);
        s.due("LOAD 4, standings()", Tell.ferry(things + "load 4;").standings(), 4);
        s.due("LOAD 3, standings()", Tell.ferry(things + "load 3;").standings(), 2);
    }

    // ---- promise 14

    private void rentOfWhich() {
        s.holds(14, "LEAST RENT by d: the RENT (i = -1), the i-th set (-5: not so many). BAD.");
        FallowFerry x = Tell.ferry(Rivers.WOLF);
        for (int d : new int[] {-1, 21, 22, -2, 256, MIN, MAX}) {
            for (int i : new int[] {-1, 0, -2}) s.due("rent(" + d + ", " + i + ")", x.rent(d, i), BAD);
        }
        for (int i : new int[] {-2, -3, -5, -256, MIN}) {
            s.due("rent(0, " + i + ")", x.rent(0, i), BAD);
            s.due("rent(20, " + i + ")", x.rent(20, i), BAD);
        }
        rentIs("the wolf", x, 20, 0, WOLF);
    }

    private void rentByNone() {
        s.holds(14, "LEAST RENT by d (0 .. 20) CROSSINGS at most");
        rentIs("by none", Tell.ferry(Rivers.WOLF), 0, 10);
        rentIs("by none", Tell.ferry(Rivers.SEVEN), 0, 63);
        rentIs("by one", Tell.ferry(Rivers.SEVEN), 1, 0, 127);
        rentIs("of none", new FallowFerry(), 0, 0);
        rentIs("of none", new FallowFerry(), 20, 0);
    }

    private void rentByTwenty() {
        s.holds(14, "LEAST RENT by d (0 .. 20) CROSSINGS at most");
        FallowFerry x = Tell.ferry(Rivers.LONG);
        rentIs("21 were needed", x, 19, 2, 16, 18, 16, 24, 20, 32, 64);
        rentIs("21 were needed", x, 20, 1, LONG_BY_20);
        s.due("21 were needed, rent(21, -1)", x.rent(21, -1), BAD);
        x.cross(16);
        int[] behind = new int[20];
        System.arraycopy(LONG, 1, behind, 0, 20);
        rentIs("20 are needed", x, 20, 0, behind);
        s.due("20 are needed, rent(19, -1)", x.rent(19, -1), 1);
    }

    private void rentAtMost() {
        s.holds(14, "CROSSINGS at most: the least RENT of all");
        FallowFerry x = Tell.ferry(Rivers.WOLF);
        rentIs("the wolf", x, 1, 5, 2);
        rentIs("the wolf", x, 2, 5, 2);
        rentIs("the wolf", x, 3, 2, 2, 0, 1);
        rentIs("the wolf", x, 6, 2, 2, 0, 1);
        rentIs("the wolf", x, 7, 0, WOLF);
        rentIs("the wolf", x, 8, 0, WOLF);
    }

    private void rentWithFewest() {
        s.holds(14, "of PLANS for it those with the fewest CROSSINGS.");
        FallowFerry x = Tell.ferry(Rivers.MANY_PLANS);
        rentIs("by 1", x, 1, 5, 6);
        rentIs("by 2", x, 2, 5, 6);
        for (int d = 3; d <= 20; d++) rentIs("by more", x, d, 0, 3, 8, 4);
        rentIs("as it is NOW", Tell.ferry("thing 0 0 9 1;thing 0 1 0 1;"), 20, 0);
        rentIs("who pays none may stay", Tell.ferry("thing 0 1 0 1;thing 0 1 9 1;load 1;"), 20, 0, 2);
    }

    private void rentOfAll() {
        s.holds(14, "the least RENT of all");
        rentIs("two of 5 are more than one of 9", Tell.ferry("thing 0 1 9 2;thing 0 1 5 1;thing 0 1 5 1;load 2;"), 1, 9, 6);
        rentIs("one of 9 is more than one of 8", Tell.ferry("thing 0 1 8 1;thing 0 1 9 1;load 1;"), 1, 8, 2);
        rentIs("as much: the first", Tell.ferry("thing 0 1 9 1;thing 0 1 9 1;load 1;"), 1, 9, 1);
        rentIs("either pays none", Tell.ferry("thing 0 2 9 1;thing 0 1 1 1;load 1;"), 1, 0, 2);
    }

    private void rentNeverDone() {
        s.holds(14, "LEAST RENT by d: the RENT (i = -1), the i-th set (-5: not so many).");
        rentIs("none can cross", Tell.ferry("thing 0 1 4 9;load 8;"), 20, 4);
        rentIs("one can cross", Tell.ferry("thing 0 1 4 9;thing 0 1 5 1;load 8;"), 20, 4, 2);
        rentIs("not even THE FERRY", Tell.ferry("thing 0 1 4 9;thing 0 1 5 9;fears 0 1;load 8;"), 20, 9);
    }

    private void rentFromNow() {
        s.holds(14, "(From NOW, by CROSSINGS alone");
        rentIs("all where they want", Tell.ferry("thing 1 1 9 1;ferry 1;"), 0, 0);
        rentIs("all where they want", Tell.ferry("thing 1 1 9 1;thing 0 0 9 1;"), 20, 0);
        rentIs("none can cross back", Tell.ferry("thing 1 0 9 9;load 8;ferry 1;"), 20, 9);
        FallowFerry x = Tell.ferry(Rivers.WOLF);
        int[] rents = {10, 5, 5, 2, 7, 5, 5, 0};
        for (int k = 0; k < WOLF.length; k++) {
            s.due("rent(0, -1) behind " + k, x.rent(0, -1), rents[k]);
            s.due("rent(20, -1) behind " + k, x.rent(20, -1), 0);
            s.due("rent(20, 0) behind " + k, x.rent(20, 0), WOLF[k]);
            s.due("rent(20, " + (7 - k) + ") behind " + k, x.rent(20, 7 - k), NOT_SO_MANY);
            s.due("cross(" + WOLF[k] + ")", x.cross(WOLF[k]), 8 - k);
        }
        rentIs("behind all", x, 20, 0);
        x.undo();
        rentIs("UNDONE", x, 0, 5);
        rentIs("UNDONE", x, 1, 0, 2);
    }

    private void rentOfAnother() {
        s.holds(14, "the least RENT of all, of PLANS for it those with the fewest CROSSINGS.");
        FallowFerry x = Tell.ferry(Rivers.SEVEN);
        rentIs("256 standings", x, 20, 0, 127);
        s.due("256 standings, rent(20, -1) of some either", Tell.ferry(Rivers.SEVEN.replace("0 1 9", "0 2 9")).rent(20, -1), 0);
        Tell.river(x, "thing 0 1 4 9;thing 1 0 3 9;load 8;");
        rentIs("none of an earlier river's", x, 20, 7);
        Tell.river(x, "thing 0 1 9 1;".repeat(6) + "thing 0 1 9 9;load 5;");
        rentIs("half of them stand", x, 20, 9, 1, 0, 62);
        Tell.river(x, "thing 1 0 9 1;".repeat(7) + "load 7;");
        rentIs("all the other way", x, 20, 0, 0, 127);
    }

    // ---- promise 15

    private void leastOfOne() {
        s.holds(15, "LEAST LOAD: the least LOAD (1 .. 20) by which it can be DONE at all; NONE.");
        s.due("least() of no THINGS", new FallowFerry().least(), 1);
        s.due("least() of none WRONG", Tell.ferry("thing 0 0 0 9;thing 1 2 0 9;load 20;").least(), 1);
        for (int w = 1; w <= 9; w++) s.due("least() of " + w, Tell.ferry("thing 0 1 0 " + w + ";").least(), w);
        s.due("least() of the wolf", Tell.ferry(Rivers.WOLF).least(), 1);
        s.due("least() of 21 CROSSINGS", Tell.ferry(Rivers.LONG).least(), 8);
    }

    private static String fourThatFear(int last) {
        return "thing 0 1 1 9;".repeat(3) + "thing 0 1 1 " + last + ";fears 0 1;fears 0 2;fears 0 3;fears 1 2;fears 1 3;fears 2 3;";
    }

    private void leastOfTwenty() {
        s.holds(15, "the least LOAD (1 .. 20) by which it can be DONE at all");
        s.due("least() of 9, 9 and 1", Tell.ferry(fourThatFear(1)).least(), 19);
        s.due("least() of 9, 9 and 2", Tell.ferry(fourThatFear(2)).least(), 20);
    }

    private void leastOfMore() {
        s.holds(15, "LEAST LOAD; NONE.");
        s.due("least() of 9, 9 and 3", Tell.ferry(fourThatFear(3)).least(), NONE);
        s.due("least() of 9, 9 and 9", Tell.ferry(fourThatFear(9) + "load 20;").least(), NONE);
    }

    private void leastWhateverLoad() {
        s.holds(15, "LEAST LOAD: the least LOAD");
        for (int load = 1; load <= 20; load++) {
            FallowFerry x = Tell.ferry(fourThatFear(2) + "load " + load + ";");
            s.due("LOAD " + load + ", least()", x.least(), 20);
            s.due("LOAD " + load + ", now(1)", x.now(1), load);
            s.due("LOAD " + load + ", done(-1)", x.done(-1), load < 20 ? NONE : 3);
        }
        FallowFerry x = Tell.ferry("thing 0 1 0 9;thing 0 1 0 4;load 9;");
        x.cross(1);
        s.due("least(), from NOW", x.least(), 4);
    }

    // ---- promise 16

    private void soonerThatIsNone() {
        s.holds(16, "SOONER; NO. NO: BAD, too.");
        for (int things = 0; things <= 7; things++) {
            FallowFerry x = Tell.ferry("thing 0 1 0 1;".repeat(things) + "load 7;");
            for (int t : new int[] {-1, things, 7, 31, 32, -32, MIN, MAX}) {
                s.due(things + " THINGS, sooner(" + t + ")", x.sooner(t), NO);
            }
        }
    }

    private void soonerByNone() {
        s.holds(16, "how many CROSSINGS fewer (below 0: never) DONE takes");
        FallowFerry x = Tell.ferry(Rivers.SEVEN);
        for (int t = 0; t < 7; t++) s.due("all at once, sooner(" + t + ")", x.sooner(t), 0);
        x = Tell.ferry(Rivers.MANY_PLANS);
        int[] fewer = {0, 1, 1, 2};
        for (int t = 0; t < 4; t++) s.due("many plans, sooner(" + t + ")", x.sooner(t), fewer[t]);
        s.due("none WRONG, sooner(0)", Tell.ferry("thing 0 0 0 1;").sooner(0), 0);
    }

    private void soonerByMany() {
        s.holds(16, "how many CROSSINGS fewer (below 0: never) DONE takes");
        s.due("the only one, sooner(0)", Tell.ferry("thing 0 1 0 1;").sooner(0), 1);
        FallowFerry x = Tell.ferry(Rivers.LONG);
        int[] fewer = {14, 6, 0, 6, 15, 6, 14};
        for (int t = 0; t < 7; t++) s.due("21 CROSSINGS, sooner(" + t + ")", x.sooner(t), fewer[t]);
        x = Tell.ferry("thing 0 1 1 1;".repeat(7) + "load 1;");
        for (int t = 0; t < 7; t++) s.due("one by one, sooner(" + t + ")", x.sooner(t), 2);
    }

    private void soonerNever() {
        s.holds(16, "NO: it can't be DONE, with it, or without.");
        FallowFerry x = Tell.ferry("thing 0 1 0 9;thing 0 1 0 1;load 8;");
        s.due("not with it, sooner(0)", x.sooner(0), NO);
        s.due("neither with it nor without, sooner(1)", x.sooner(1), NO);
        x = Tell.ferry("thing 0 1 0 9;load 8;");
        s.due("not with it, sooner(0)", x.sooner(0), NO);
    }

    private void soonerWithoutItsFears() {
        s.holds(16, "SOONER without a THING (it and its FEARS are not there)");
        FallowFerry x = Tell.ferry(Rivers.WOLF);
        for (int t = 0; t < 3; t++) s.due("sooner(" + t + ")", x.sooner(t), 4);
        x = Tell.ferry("thing 0 2 0 9;thing 0 1 0 1;thing 0 2 0 1;fears 0 2;load 2;");
        s.due("all cross but the heavy one, done(0)", x.done(0), 6);
        s.due("sooner(0)", x.sooner(0), 0);
        x = Tell.ferry("thing 1 0 0 1;thing 1 2 0 1;thing 0 1 0 1;fears 0 1;ferry 1;load 1;");
        s.due("done(-1), one of those that fear first", x.done(-1), 2);
        s.due("sooner(0)", x.sooner(0), 0);
        s.due("sooner(2)", x.sooner(2), 1);
    }

    // ---- promise 17

    private void standingsOfThisOne() {
        s.holds(17, "STANDINGS: how many (THINGS' BANKS, THE FERRY's) can come (this one, too).");
        s.due("none can cross", Tell.ferry("thing 0 1 0 9;thing 0 1 0 9;fears 0 1;load 8;").standings(), 1);
        s.due("THE FERRY alone", Tell.ferry("thing 0 1 0 9;thing 0 1 0 9;load 8;").standings(), 2);
        s.due("no THINGS", new FallowFerry().standings(), 2);
        s.due("this one, not SAFE, comes no more",
            Tell.ferry("thing 0 1 0 9;thing 0 1 0 9;fears 0 1;load 8;ferry 1;").standings(), 2);
        s.due("this one, SAFE with THE FERRY",
            Tell.ferry("thing 1 1 0 9;thing 1 1 0 9;fears 0 1;load 8;ferry 1;").standings(), 1);
    }

    private void standingsOfAll() {
        s.holds(17, "STANDINGS: how many (THINGS' BANKS, THE FERRY's) can come (this one, too).");
        for (int things = 0; things <= 7; things++) {
            String all = "thing 0 1 0 1;".repeat(things);
            s.due(things + " THINGS, all at once", Tell.ferry(all + "load 20;").standings(), 2 << things);
            s.due(things + " THINGS, one by one", Tell.ferry(all + "load 1;").standings(), 2 << things);
        }
        s.due("21 CROSSINGS", Tell.ferry(Rivers.LONG).standings(), 100);
        s.due("many PLANS", Tell.ferry(Rivers.MANY_PLANS).standings(), 20);
    }

    private void standingsFromNow() {
        s.holds(17, "(From NOW, by CROSSINGS alone");
        FallowFerry x = Tell.ferry("thing 0 1 0 9;thing 0 1 0 9;fears 0 1;load 8;ferry 1;");
        s.due("standings()", x.standings(), 2);
        x.cross(0);
        s.due("standings(), from NOW", x.standings(), 1);
        s.due("cross(0)", x.cross(0), STATE);
        x.undo();
        s.due("standings(), UNDONE", x.standings(), 2);
    }
}
