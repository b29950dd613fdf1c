/** The edges that the document names for what was seen and what is owed: promises 18 to 21, and their terms. */
public final class EdgesOfSeenTest {
    private static final int BAD = -1, FULL = -3;
    private static final int MIN = Integer.MIN_VALUE, MAX = Integer.MAX_VALUE;
    private static final long[] WOLF_FITS = {1, 1, 2, 4, 8, 18};

    /** None can cross from the first standing that is not SAFE to leave. */
    private static final String STUCK = "thing 0 1 0 9;thing 0 1 0 9;fears 0 1;load 8;";

    private final Sentences s = new Sentences();

    public static void main(String[] args) {
        EdgesOfSeenTest t = new EdgesOfSeenTest();
        t.sawOfWhat();
        t.sawOfNoThing();
        t.sawEight();
        t.sawTheSame();
        t.forget();
        t.fitsOfWhat();
        t.fitsOfNone();
        t.fitsOfMany();
        t.fitsBehindNAtMost();
        t.fitsAtTheBeginning();
        t.fitsFromTheBeginning();
        t.fitsOfEitherBank();
        t.fitsOfPlans();
        t.aboardOfWhich();
        t.aboardOfThese();
        t.aboardOfNone();
        t.owedOfWhat();
        t.owedForNoYear();
        t.owedCut();
        t.owedForFifty();
        t.owedOfNotWrong();
        t.owedAsItStands();
        t.s.end();
    }

    private void fitsAre(String what, FallowFerry x, long... ways) {
        for (int n = 0; n < ways.length; n++) s.due(what + ", fits(" + n + ", 0)", x.fits(n, 0), ways[n]);
    }

    private void aboardIs(String what, FallowFerry x, int n, long... those) {
        for (int c = 1; c <= n; c++) s.due(what + ", fits(" + n + ", " + c + ")", x.fits(n, c), those[c - 1]);
    }

    // ---- promise 18

    private void sawOfWhat() {
        s.holds(18, "behind the c-th CROSSING (0 .. 5; 0: at the beginning, as told) a THING was on a BANK.");
        FallowFerry x = Tell.ferry(Rivers.WOLF);
        for (int c : new int[] {-1, 6, 7, 256, -256, MIN, MAX}) s.due("saw(" + c + ", 0, 0)", x.saw(c, 0, 0), BAD);
        for (int b : new int[] {-1, 2, 3, 256, MIN, MAX}) s.due("saw(0, 0, " + b + ")", x.saw(0, 0, b), BAD);
        s.due("count(2)", x.count(2), 0);
        for (int c = 0; c <= 5; c++) s.due("saw(" + c + ", 2, 0)", x.saw(c, 2, c % 2), c + 1);
    }

    private void sawOfNoThing() {
        s.holds(18, "(a number is not as told, or there is no such thing)");
        for (int things = 0; things <= 7; things++) {
            FallowFerry x = Tell.ferry("thing 1 2 0 1;".repeat(things));
            for (int t : new int[] {-1, things, 7, 31, 32, MIN, MAX}) {
                s.due(things + " THINGS, saw(0, " + t + ", 0)", x.saw(0, t, 0), BAD);
            }
            s.due(things + " THINGS, count(2)", x.count(2), 0);
            if (things > 0) s.due(things + " THINGS, saw of the last", x.saw(5, things - 1, 1), 1);
        }
    }

    private void sawEight() {
        s.holds(18, "SEEN (8 at most)");
        FallowFerry x = Tell.ferry(Rivers.WOLF);
        for (int k = 1; k <= 8; k++) s.due("saw(" + k % 6 + ", 1, 1)", x.saw(k % 6, 1, 1), k);
        for (int k = 0; k < 2; k++) {
            s.due("the ninth", x.saw(0, 0, 0), FULL);
            s.due("count(2)", x.count(2), 8);
            s.due("BAD ahead of FULL, c", x.saw(6, 0, 0), BAD);
            s.due("BAD ahead of FULL, t", x.saw(0, 3, 0), BAD);
            s.due("BAD ahead of FULL, bank", x.saw(0, 0, 2), BAD);
        }
        x.forget();
        s.due("the first again", x.saw(0, 0, 0), 1);
        x = Tell.ferry(Rivers.WOLF);
        for (int k = 1; k <= 7; k++) x.saw(1, 1, 1);
        s.due("fits(1, 0) of seven", x.fits(1, 0), 1);
        x.saw(1, 0, 1);
        s.due("fits(1, 0), the eighth counts", x.fits(1, 0), 0);
        x = Tell.ferry(Rivers.WOLF);
        for (int k = 1; k <= 8; k++) x.saw(1, 1, 1);
        x.saw(1, 0, 1);
        s.due("fits(1, 0), the ninth doesn't", x.fits(1, 0), 1);
    }

    private void sawTheSame() {
        s.holds(18, "SEEN: how much there is.");
        FallowFerry x = Tell.ferry(Rivers.WOLF);
        s.due("saw(2, 1, 1)", x.saw(2, 1, 1), 1);
        s.due("saw(2, 1, 1), the same", x.saw(2, 1, 1), 2);
        s.due("fits(2, 0)", x.fits(2, 0), 1);
        s.due("saw(2, 1, 0), the contrary", x.saw(2, 1, 0), 3);
        s.due("fits(2, 0)", x.fits(2, 0), 0);
        s.due("count(2)", x.count(2), 3);
    }

    // ---- promise 19

    private void forget() {
        s.holds(19, "Nothing was SEEN: how much there was.");
        for (int many = 0; many <= 8; many++) {
            FallowFerry x = Tell.ferry(Rivers.WOLF);
            for (int k = 0; k < many; k++) x.saw(0, 0, 1);
            s.due("fits(0, 0) of " + many, x.fits(0, 0), many == 0 ? 1 : 0);
            s.due("forget() of " + many, x.forget(), many);
            s.due("forget() of none", x.forget(), 0);
            s.due("count(2)", x.count(2), 0);
            fitsAre("all forgotten", x, WOLF_FITS);
        }
    }

    // ---- promise 20

    private void fitsOfWhat() {
        s.holds(20, "FITS (c = 0), ABOARD in the c-th (1 .. n): bits. BAD.");
        FallowFerry x = Tell.ferry(Rivers.WOLF);
        for (int n : new int[] {-1, 6, 7, 256, MIN, MAX}) {
            for (int c : new int[] {-1, 0, 1, 6}) s.due("fits(" + n + ", " + c + ")", x.fits(n, c), BAD);
        }
        for (int n = 0; n <= 5; n++) {
            for (int c : new int[] {-1, n + 1, n + 2, 256, MIN, MAX}) {
                s.due("fits(" + n + ", " + c + ")", x.fits(n, c), BAD);
            }
        }
        fitsAre("the wolf", x, WOLF_FITS);
        aboardIs("the wolf", x, 5, 2, 2, 7, 7, 7);
    }

    private void fitsOfNone() {
        s.holds(20, "FITS of n (0 .. 5): how many PLANS of n CROSSINGS from the beginning there are");
        fitsAre("no THINGS", new FallowFerry(), 1, 1, 1, 1, 1, 1);
        fitsAre("none can cross, not even THE FERRY", Tell.ferry(STUCK), 1, 0, 0, 0, 0, 0);
        fitsAre("THE FERRY can cross once", Tell.ferry(STUCK + "ferry 1;"), 1, 1, 0, 0, 0, 0);
    }

    private void fitsOfMany() {
        s.holds(20, "FITS of n (0 .. 5): how many PLANS of n CROSSINGS from the beginning there are");
        // of a THING 1, 2, 3, 5, 8, 13 ways, each by itself
        fitsAre("seven at THE FERRY's BANK", Tell.ferry(Rivers.SEVEN), 1, 128, 2187, 78125, 2097152, 62748517);
        fitsAre("seven on the other", Tell.ferry(Rivers.SEVEN + "ferry 1;"), 1, 1, 128, 2187, 78125, 2097152);
        aboardIs("seven on the other", Tell.ferry(Rivers.SEVEN + "ferry 1;"), 5, 0, 127, 127, 127, 127);
        fitsAre("not SAFE at the beginning", Tell.ferry("thing 1 1 0 1;thing 1 1 0 1;thing 0 1 0 1;fears 0 1;load 1;"),
            1, 2, 4, 10, 24, 58);
    }

    private void fitsBehindNAtMost() {
        s.holds(20, "by which all that was SEEN behind n at most is so");
        FallowFerry x = Tell.ferry(Rivers.WOLF);
        x.saw(3, 0, 1);
        fitsAre("SEEN behind the third", x, 1, 1, 2, 1, 2, 5);
        x.forget();
        x.saw(5, 1, 1);
        fitsAre("SEEN behind the fifth", x, 1, 1, 2, 4, 8, 16);
        x.forget();
        x.saw(5, 0, 1);
        x.saw(5, 2, 1);
        fitsAre("two SEEN behind the fifth", x, 1, 1, 2, 4, 8, 2);
        x.forget();
        x.saw(1, 1, 0);
        fitsAre("what can't be, behind the first", x, 1, 0, 0, 0, 0, 0);
    }

    private void fitsAtTheBeginning() {
        s.holds(20, "0: at the beginning, as told");
        for (int bank = 0; bank <= 1; bank++) {
            for (int seen = 0; seen <= 1; seen++) {
                FallowFerry x = Tell.ferry("thing 0 2 0 1;thing " + bank + " 2 0 1;load 1;");
                x.saw(0, 1, seen);
                for (int n = 0; n <= 5; n++) {
                    long free = Tell.ferry("thing 0 2 0 1;thing " + bank + " 2 0 1;load 1;").fits(n, 0);
                    s.due("told " + bank + ", SEEN " + seen + ", fits(" + n + ", 0)", x.fits(n, 0),
                        bank == seen ? free : 0);
                }
            }
        }
    }

    private void fitsFromTheBeginning() {
        s.holds(20, "from the beginning there are");
        FallowFerry x = Tell.ferry(Rivers.WOLF + "days 2;frost 9;");
        x.cross(2);
        x.rest();
        Nights.freeze(x, 9);
        x.slide(0);
        fitsAre("NOW is another, no DAY is left", x, WOLF_FITS);
        x.saw(0, 1, 0);
        fitsAre("SEEN as told", x, WOLF_FITS);
        x.saw(0, 1, 1);
        fitsAre("SEEN as NOW", x, 0, 0, 0, 0, 0, 0);
    }

    private void fitsOfEitherBank() {
        s.holds(20, "a THING was on a BANK.");
        for (int n = 1; n <= 5; n++) {
            for (int t = 0; t < 3; t++) {
                FallowFerry x = Tell.ferry(Rivers.WOLF);
                x.saw(n, t, 0);
                long near = x.fits(n, 0);
                x.forget();
                x.saw(n, t, 1);
                s.due("on either BANK of THING " + t + " behind " + n, near + x.fits(n, 0), WOLF_FITS[n]);
            }
        }
        FallowFerry x = Tell.ferry("thing 0 1 0 2;thing 0 1 0 1;load 2;");
        fitsAre("none SEEN", x, 1, 3, 5, 13, 25, 59);
        x.saw(1, 0, 1);
        x.saw(2, 0, 0);
        x.saw(3, 1, 0);
        fitsAre("three SEEN", x, 1, 1, 1, 2, 3, 8);
        aboardIs("three SEEN", x, 5, 1, 1, 1, 1, 3);
    }

    private void fitsOfPlans() {
        s.holds(20, "A PLAN: CROSSINGS one behind another");
        fitsAre("as heavy as LOAD", Tell.ferry("thing 0 1 0 9;thing 0 1 0 9;load 18;"), 1, 4);
        fitsAre("heavier by one", Tell.ferry("thing 0 1 0 9;thing 0 1 0 9;load 17;"), 1, 3);
        fitsAre("only what is SAFE", Tell.ferry("thing 0 1 0 1;thing 0 1 0 1;fears 0 1;"), 1, 3);
    }

    private void aboardOfWhich() {
        s.holds(20, "THINGS (bits) that can have crossed in the c-th (1 .. n).");
        FallowFerry x = Tell.ferry(Rivers.SEVEN);
        for (int n = 1; n <= 5; n++) {
            for (int c = 1; c <= n; c++) s.due("seven, fits(" + n + ", " + c + ")", x.fits(n, c), 127);
        }
        x = Tell.ferry("thing 0 1 0 9;".repeat(6) + "thing 0 1 0 1;load 1;");
        aboardIs("the last alone", x, 5, 64, 64, 64, 64, 64);
        x = Tell.ferry("thing 1 1 0 1;thing 0 1 0 1;load 1;");
        aboardIs("who is there", x, 2, 2, 3);
    }

    private void aboardOfThese() {
        s.holds(20, "ABOARD of these");
        FallowFerry x = Tell.ferry(Rivers.WOLF);
        x.saw(3, 0, 1);
        aboardIs("the wolf SEEN behind 3", x, 2, 2, 2);
        aboardIs("the wolf SEEN behind 3", x, 3, 2, 0, 1);
        aboardIs("the wolf SEEN behind 3", x, 4, 2, 0, 1, 3);
        aboardIs("the wolf SEEN behind 3", x, 5, 2, 0, 1, 3, 7);
        x.forget();
        x.saw(5, 0, 1);
        x.saw(5, 2, 1);
        aboardIs("both SEEN behind 5", x, 4, 2, 2, 7, 7);
        aboardIs("both SEEN behind 5", x, 5, 2, 0, 5, 2, 5);
        x = Tell.ferry("thing 0 1 0 2;thing 0 1 0 1;load 2;");
        x.saw(2, 0, 1);
        aboardIs("who must have crossed first", x, 2, 1, 0);
        aboardIs("who must have crossed first", x, 5, 1, 0, 2, 3, 3);
    }

    private void aboardOfNone() {
        s.holds(20, "ABOARD of these: THINGS (bits) that can have crossed in the c-th (1 .. n).");
        aboardIs("no THINGS", new FallowFerry(), 5, 0, 0, 0, 0, 0);
        aboardIs("too heavy", Tell.ferry("thing 0 1 0 9;load 8;"), 5, 0, 0, 0, 0, 0);
        aboardIs("no PLAN is there", Tell.ferry(STUCK), 3, 0, 0, 0);
        FallowFerry x = Tell.ferry("thing 0 1 0 1;");
        x.saw(0, 0, 1);
        aboardIs("no PLAN fits", x, 5, 0, 0, 0, 0, 0);
        x.forget();
        x.saw(5, 0, 1);
        x.saw(5, 0, 0);
        aboardIs("no PLAN of 5 fits", x, 5, 0, 0, 0, 0, 0);
        aboardIs("no PLAN of 5 fits, but of 4", x, 4, 1, 1, 1, 1);
    }

    // ---- promise 21

    private void owedOfWhat() {
        s.holds(21, "OWED. BAD.");
        for (int things = 0; things <= 7; things++) {
            FallowFerry x = Tell.ferry("thing 0 1 9 1;".repeat(things));
            for (int t : new int[] {-1, things, 7, 31, 32, -32, MIN, MAX}) {
                s.due(things + " THINGS, owed(" + t + ", 1)", x.owed(t, 1), BAD);
            }
            if (things > 0) s.due(things + " THINGS, owed of the last", x.owed(things - 1, 1), 9);
        }
        FallowFerry x = Tell.ferry("thing 0 1 9 1;thing 0 0 9 1;");
        for (int y : new int[] {-1, 51, 52, 256, -256, MIN, MAX}) {
            s.due("owed(0, " + y + ")", x.owed(0, y), BAD);
            s.due("owed(1, " + y + "), not WRONG", x.owed(1, y), BAD);
        }
    }

    private void owedForNoYear() {
        s.holds(21, "OWED for y (0 .. 50) fallow years: who is WRONG by as many YEARS' RENT");
        for (int rent = 0; rent <= 9; rent++) {
            FallowFerry x = Tell.ferry("thing 0 1 " + rent + " 1;");
            s.due("RENT " + rent + ", owed(0, 0)", x.owed(0, 0), 0);
            s.due("RENT " + rent + ", owed(0, 1)", x.owed(0, 1), rent);
        }
    }

    private void owedCut() {
        s.holds(21, "each YEAR a tenth more of what is owed already (cut), then RENT");
        long[] nine = {0, 9, 18, 28, 39, 51, 65, 80, 97, 115, 135};
        FallowFerry x = Tell.ferry("thing 0 1 9 1;thing 0 1 5 1;thing 0 1 1 1;thing 0 1 0 1;");
        for (int y = 0; y < nine.length; y++) s.due("RENT 9, owed(0, " + y + ")", x.owed(0, y), nine[y]);
        long[] five = {0, 5, 10, 16, 22, 29, 36};
        for (int y = 0; y < five.length; y++) s.due("RENT 5, owed(1, " + y + ")", x.owed(1, y), five[y]);
        long[] one = {0, 1, 2, 3, 4, 5, 6, 7, 8, 9, 10, 12, 14, 16, 18, 20, 23};
        for (int y = 0; y < one.length; y++) s.due("RENT 1, owed(2, " + y + ")", x.owed(2, y), one[y]);
        s.due("RENT 0, owed(3, 50)", x.owed(3, 50), 0);
    }

    private void owedForFifty() {
        s.holds(21, "OWED for y (0 .. 50) fallow years");
        for (int rent = 0; rent <= 9; rent++) {
            FallowFerry x = Tell.ferry("thing 1 0 " + rent + " 1;days 0;");
            long owes = 0;
            for (int y = 0; y <= 50; y++) {
                s.due("RENT " + rent + ", owed(0, " + y + ")", x.owed(0, y), owes);
                owes = owes + owes / 10 + rent;
            }
        }
        s.due("RENT 9, owed(0, 50)", Tell.ferry("thing 0 1 9 1;").owed(0, 50), 9870);
    }

    private void owedOfNotWrong() {
        s.holds(21, "who is WRONG by as many YEARS' RENT");
        FallowFerry x = Tell.ferry("thing 0 0 9 1;thing 1 1 9 1;thing 0 2 9 1;thing 1 2 9 1;");
        for (int t = 0; t < 4; t++) {
            for (int y : new int[] {0, 1, 50}) s.due("owed(" + t + ", " + y + ")", x.owed(t, y), 0);
        }
    }

    private void owedAsItStands() {
        s.holds(21, "of a THING as it stands.");
        FallowFerry x = Tell.ferry("thing 0 1 9 1;thing 0 0 4 1;");
        s.due("owed(0, 2)", x.owed(0, 2), 18);
        s.due("owed(1, 2)", x.owed(1, 2), 0);
        x.cross(3);
        s.due("owed(0, 2)", x.owed(0, 2), 0);
        s.due("owed(1, 2)", x.owed(1, 2), 8);
        x.undo();
        s.due("owed(0, 2)", x.owed(0, 2), 18);
        s.due("owed(1, 2)", x.owed(1, 2), 0);
    }
}
