/** The edges that the document names for looks at NOW and for days: promises 5 to 12, and their terms. */
public final class EdgesOfDaysTest {
    private static final int BAD = -1, STATE = -2;
    private static final int MIN = Integer.MIN_VALUE, MAX = Integer.MAX_VALUE;

    private final Sentences s = new Sentences();

    public static void main(String[] args) {
        EdgesOfDaysTest t = new EdgesOfDaysTest();
        t.thingOfEachSide();
        t.thingThatIsNone();
        t.thingOfWhat();
        t.nowOfWhat();
        t.safe();
        t.wrong();
        t.rentOfAll();
        t.crossOfNone();
        t.crossBitsOfNone();
        t.crossNotAllThere();
        t.crossOfLoad();
        t.crossOnlySafe();
        t.crossOfDays();
        t.crossOfAll();
        t.rest();
        t.lotGoesOn();
        t.drawOfUpperBits();
        t.lessThanFrost();
        t.iceNineAtMost();
        t.iceNoneAtLeast();
        t.nightsAreNoDays();
        t.slideThatIsNone();
        t.slideOfWeight();
        t.slideEitherWay();
        t.slideOnlySafe();
        t.slideOfNoDay();
        t.undoOfNone();
        t.undoOfTen();
        t.undoOfSlides();
        t.undoLeavesOthers();
        t.undoIsNotUndone();
        t.refusedIsNotUndone();
        t.lot();
        t.s.end();
    }

    // ---- promise 5

    private void thingOfEachSide() {
        s.holds(5, "Of a THING: 0 BANK, 1 WANTS, 2 RENT, 3 WEIGHT, 4 whom it FEARS (bits).");
        FallowFerry x = Tell.ferry("thing 0 0 0 1;thing 1 2 9 9;thing 0 1 5 4;" + "thing 1 0 1 1;".repeat(4)
            + "fears 0 6;fears 1 0;fears 2 1;");
        int[][] due = {{0, 0, 0, 1, 66}, {1, 2, 9, 9, 5}, {0, 1, 5, 4, 2}};
        for (int t = 0; t < 3; t++) {
            for (int what = 0; what < 5; what++) {
                s.due("thing(" + t + ", " + what + ")", x.thing(t, what), due[t][what]);
            }
        }
        s.due("thing(6, 4)", x.thing(6, 4), 1);
        s.due("thing(5, 4)", x.thing(5, 4), 0);
    }

    private void thingThatIsNone() {
        s.holds(5, "(a number is not as told, or there is no such thing)");
        for (int things = 0; things <= 7; things++) {
            FallowFerry x = Tell.ferry("thing 1 2 9 8;".repeat(things));
            for (int t : new int[] {-1, things, 7, 8, 31, 32, 33, 64, -32, MIN, MAX, MIN + 1}) {
                for (int what = 0; what <= 4; what++) {
                    s.due(things + " THINGS, thing(" + t + ", " + what + ")", x.thing(t, what), BAD);
                }
            }
            if (things > 0) s.due("thing of the first", x.thing(0, 3), 8);
            if (things > 0) s.due("thing of the last", x.thing(things - 1, 3), 8);
        }
        FallowFerry x = Tell.ferry("thing 0 1 2 3;".repeat(7));
        Tell.river(x, "thing 0 1 2 3;");
        for (int t = 1; t < 7; t++) s.due("thing(" + t + ", 3) of an earlier river", x.thing(t, 3), BAD);
    }

    private void thingOfWhat() {
        s.holds(5, "Of a THING: 0 BANK, 1 WANTS, 2 RENT, 3 WEIGHT, 4 whom it FEARS (bits). BAD.");
        FallowFerry x = Tell.ferry(Rivers.WOLF);
        for (int what : new int[] {-1, 5, 6, 32, MIN, MAX}) s.due("thing(0, " + what + ")", x.thing(0, what), BAD);
    }

    // ---- promise 6

    private void nowOfWhat() {
        s.holds(6, "0 THE FERRY's BANK, 1 LOAD, 2 DAYS, 3 ICE, 4 WRONG ones (bits), 5 RENT of all, 6 whether it is SAFE. BAD.");
        FallowFerry x = Tell.ferry("thing 0 1 9 1;thing 1 0 7 1;thing 0 2 5 1;ferry 1;load 20;days 20;frost 9;");
        Nights.freeze(x, 9);
        int[] now = {1, 20, 20, 9, 3, 16, 1};
        for (int k = 0; k < now.length; k++) s.due("now(" + k + ")", x.now(k), now[k]);
        for (int what : new int[] {-1, 7, 8, 32, MIN, MAX}) s.due("now(" + what + ")", x.now(what), BAD);
    }

    private void safe() {
        s.holds(6, "SAFE: on the BANK without THE FERRY no two are that FEAR each other.");
        for (int ferry = 0; ferry <= 1; ferry++) {
            for (int a = 0; a <= 1; a++) {
                for (int b = 0; b <= 1; b++) {
                    String text = "thing " + a + " 2 0 1;thing " + (1 - ferry) + " 2 0 1;thing " + b + " 2 0 1;";
                    FallowFerry x = Tell.ferry(text + "fears 2 0;ferry " + ferry + ";");
                    s.due("now(6) of A at " + a + ", B at " + b + ", ferry at " + ferry, x.now(6),
                        a == b && a != ferry ? 0 : 1);
                    x = Tell.ferry(text + "ferry " + ferry + ";");
                    s.due("now(6) where none FEARS", x.now(6), 1);
                }
            }
        }
        FallowFerry x = Tell.ferry("thing 1 2 0 1;".repeat(7) + "fears 5 6;");
        s.due("now(6) of the last two", x.now(6), 0);
    }

    private void wrong() {
        s.holds(6, "WRONG: THINGS that WANT the other BANK");
        s.due("now(4) of none", Tell.ferry("").now(4), 0);
        s.due("now(4) of all", Tell.ferry("thing 0 1 0 1;".repeat(7)).now(4), 127);
        s.due("now(4) of all, back", Tell.ferry("thing 1 0 0 1;".repeat(7)).now(4), 127);
        s.due("now(4) of the last", Tell.ferry("thing 1 1 0 1;".repeat(6) + "thing 1 0 0 1;").now(4), 64);
        for (int bank = 0; bank <= 1; bank++) {
            s.due("now(4) of either", Tell.ferry(("thing " + bank + " 2 9 1;").repeat(7)).now(4), 0);
            s.due("now(4) of theirs", Tell.ferry(("thing " + bank + " " + bank + " 9 1;").repeat(7)).now(4), 0);
        }
    }

    private void rentOfAll() {
        s.holds(6, "RENT of all: those' added.");
        s.due("now(5) of no THINGS", Tell.ferry("").now(5), 0);
        s.due("now(5) of seven by 9", Tell.ferry("thing 0 1 9 1;".repeat(7)).now(5), 63);
        s.due("now(5) of none WRONG", Tell.ferry("thing 0 0 9 1;thing 1 2 9 1;").now(5), 0);
        s.due("now(5) of RENT 0", Tell.ferry("thing 0 1 0 1;".repeat(7)).now(5), 0);
        s.due("now(5) of the last", Tell.ferry("thing 0 0 9 1;".repeat(6) + "thing 1 0 8 1;").now(5), 8);
    }

    // ---- promise 7

    private void crossOfNone() {
        s.holds(7, "A CROSSING of a set of THINGS (none, too)");
        FallowFerry x = Tell.ferry("thing 0 0 0 9;load 1;");
        s.due("cross(0)", x.cross(0), 8);
        s.due("now(0)", x.now(0), 1);
        s.due("thing(0, 0)", x.thing(0, 0), 0);
        s.due("cross(0), back", x.cross(0), 7);
        s.due("now(0)", x.now(0), 0);
        s.due("cross(0) of no THINGS at all", new FallowFerry().cross(0), 8);
    }

    private void crossBitsOfNone() {
        s.holds(7, "BAD (bits of none)");
        for (int things = 0; things <= 7; things++) {
            FallowFerry x = Tell.ferry("thing 0 1 0 1;".repeat(things) + "load 20;days 20;");
            int all = (1 << things) - 1;
            for (int set : new int[] {all + 1, all | 128, 256, 1 << 30, 1 << 31, -1, -2, ~all, MAX, MIN | all}) {
                s.due(things + " THINGS, cross(" + set + ")", x.cross(set), BAD);
            }
            s.due(things + " THINGS, DAYS behind it", x.now(2), 20);
            s.due(things + " THINGS, cross(" + all + ")", x.cross(all), 19);
        }
        FallowFerry x = Tell.ferry("thing 1 0 0 9;load 1;days 0;");
        s.due("BAD ahead of STATE, cross(2)", x.cross(2), BAD);
        s.due("BAD ahead of STATE, cross(3)", x.cross(3), BAD);
        s.due("cross(1)", x.cross(1), STATE);
    }

    private void crossNotAllThere() {
        s.holds(7, "STATE: not all are at THE FERRY's BANK");
        for (int ferry = 0; ferry <= 1; ferry++) {
            FallowFerry x = Tell.ferry("thing 0 2 0 1;thing 1 2 0 1;thing 0 2 0 1;ferry " + ferry + ";load 9;");
            int here = ferry == 0 ? 5 : 2;
            for (int set = 7; set >= 0; set--) {
                boolean there = (set & ~here) == 0;
                s.due("ferry at " + ferry + ", cross(" + set + ")", x.cross(set), there ? 8 : STATE);
                if (there) s.due("undo()", x.undo(), 0);
            }
        }
    }

    private void crossOfLoad() {
        s.holds(7, "of WEIGHTS together LOAD at most");
        String things = "thing 0 2 0 9;thing 0 2 0 9;thing 0 2 0 2;thing 0 2 0 1;";
        int[] weights = {0, 9, 9, 18, 2, 11, 11, 20, 1, 10, 10, 19, 3, 12, 12, 21};
        for (int load = 1; load <= 20; load++) {
            FallowFerry x = Tell.ferry(things + "load " + load + ";");
            for (int set = 0; set < weights.length; set++) {
                boolean borne = weights[set] <= load;
                s.due("LOAD " + load + ", cross(" + set + ")", x.cross(set), borne ? 8 : STATE);
                if (borne) x.undo();
            }
        }
    }

    private void crossOnlySafe() {
        s.holds(7, "they and THE FERRY are on the other BANK; it must be SAFE then; a DAY less is left.");
        FallowFerry x = Tell.ferry("thing 0 2 0 1;thing 0 2 0 1;thing 0 2 0 1;fears 0 2;load 3;");
        int[] due = {STATE, 8, STATE, 8, 8, 8, 8, 8};
        for (int set = 0; set < 8; set++) {
            s.due("cross(" + set + ")", x.cross(set), due[set]);
            if (due[set] > 0) s.due("now(0)", x.now(0), 1);
            for (int t = 0; t < 3 && due[set] > 0; t++) s.due("thing(" + t + ", 0)", x.thing(t, 0), set >> t & 1);
            if (due[set] > 0) x.undo();
        }
        x = Tell.ferry("thing 1 2 0 1;thing 1 2 0 1;fears 0 1;");
        s.due("from what is not SAFE, cross(0)", x.cross(0), 8);
        s.due("now(6)", x.now(6), 1);
        s.due("back to what is not SAFE, cross(0)", x.cross(0), STATE);
        s.due("with one of them, cross(2)", x.cross(2), 7);
    }

    private void crossOfDays() {
        s.holds(7, "not SAFE then, or no DAY is left.");
        for (int days = 0; days <= 20; days++) {
            FallowFerry x = Tell.ferry("days " + days + ";");
            for (int k = days - 1; k >= 0; k--) s.due("cross(0)", x.cross(0), k);
            s.due("cross(0) without a DAY", x.cross(0), STATE);
            s.due("now(0)", x.now(0), days % 2);
        }
    }

    private void crossOfAll() {
        s.holds(7, "A CROSSING: DAYS left.");
        FallowFerry x = Tell.ferry(Rivers.SEVEN + "days 20;");
        s.due("cross(127)", x.cross(127), 19);
        s.due("now(4)", x.now(4), 0);
        s.due("cross(64)", x.cross(64), 18);
        s.due("thing(6, 0)", x.thing(6, 0), 0);
        s.due("thing(5, 0)", x.thing(5, 0), 1);
    }

    // ---- promise 8

    private void rest() {
        s.holds(8, "A DAY let go by: DAYS left. STATE: none was.");
        for (int days = 0; days <= 20; days++) {
            FallowFerry x = Tell.ferry("thing 1 0 1 1;thing 1 0 1 1;fears 0 1;days " + days + ";");
            for (int k = days - 1; k >= 0; k--) s.due("rest()", x.rest(), k);
            s.due("rest() without a DAY", x.rest(), STATE);
            s.due("now(2)", x.now(2), 0);
            s.due("now(0)", x.now(0), 0);
            s.due("count(3)", x.count(3), Math.min(days, 10));
        }
    }

    // ---- promise 9

    private void lotGoesOn() {
        s.holds(9, "THE LOT goes on (times 1103515245 and 12345, wrapped;");
        int[] lots = {0, 1, -1, 2, 3, MIN, MAX, 12345, -12345, 1103515245, 0x7FFF0000, 0x10000};
        for (int lot : lots) {
            FallowFerry x = new FallowFerry();
            x.lot(lot);
            x.night();
            // in a long nothing is lost of the product, so it is wrapped here alone
            s.due("lot(0) behind a NIGHT from " + lot, x.lot(0), (int) (lot * 1103515245L + 12345L));
        }
        FallowFerry x = new FallowFerry();
        x.night();
        s.due("lot(0) behind the first NIGHT", x.lot(0), 1103527590);
    }

    private void drawOfUpperBits() {
        s.holds(9, "DRAW: its upper 16 bits, left over by 10");
        int[][] draws = {{0, 0}, {0xFFFF, 0}, {0x10000, 1}, {0x9FFFF, 9}, {0xA0000, 0}, {0x7FFF0000, 7}, {0x7FFFFFFF, 7},
            {0x80000000, 8}, {0x80010000, 9}, {0x80020000, 0}, {0xFFFF0000, 5}, {0xFFFFFFFF, 5}, {0xFFFA0000, 0},
            {0xFFF90000, 9}, {0x80005678, 8}};
        for (int[] draw : draws) {
            for (int frost = 0; frost <= 9; frost++) {
                FallowFerry x = Tell.ferry("frost " + frost + ";");
                x.lot(Nights.lotAhead(draw[0]));
                s.due("night() with THE LOT " + Integer.toHexString(draw[0]) + ", FROST " + frost, x.night(),
                    draw[1] < frost ? 1 : 0);
                s.due("lot(0)", x.lot(0), draw[0]);
            }
        }
    }

    private void lessThanFrost() {
        s.holds(9, "less than FROST: ICE (0 at first, 9 at most) is one more, else one less (0 at least).");
        for (int frost = 1; frost <= 9; frost++) {
            FallowFerry x = Tell.ferry("frost " + frost + ";");
            s.due("now(3) at first", x.now(3), 0);
            Nights.freeze(x, 4);
            s.due("night() of DRAW " + (frost - 1) + ", FROST " + frost, Nights.drawing(x, frost - 1), 5);
            s.due("night() of DRAW " + frost + ", FROST " + frost, Nights.drawing(x, frost), 4);
            s.due("night() of DRAW 0, FROST " + frost, Nights.drawing(x, 0), 5);
            s.due("night() of DRAW 9, FROST " + frost, Nights.drawing(x, 9), 4);
        }
        FallowFerry x = Tell.ferry("frost 0;");
        for (int draw = 0; draw <= 9; draw++) s.due("night() of DRAW " + draw + ", FROST 0", Nights.drawing(x, draw), 0);
    }

    private void iceNineAtMost() {
        s.holds(9, "ICE (0 at first, 9 at most) is one more");
        FallowFerry x = Tell.ferry("frost 9;");
        for (int k = 1; k <= 14; k++) s.due("night() that freezes, " + k, Nights.drawing(x, 0), Math.min(k, 9));
        s.due("night() that thaws", Nights.drawing(x, 9), 8);
        s.due("night() that freezes", Nights.drawing(x, 0), 9);
    }

    private void iceNoneAtLeast() {
        s.holds(9, "else one less (0 at least).");
        FallowFerry x = Tell.ferry("frost 9;");
        for (int k = 1; k <= 5; k++) s.due("night() that thaws, none there", Nights.drawing(x, 9), 0);
        Nights.freeze(x, 9);
        for (int k = 8; k >= -4; k--) s.due("night() that thaws", Nights.drawing(x, 9), Math.max(k, 0));
        s.due("night() that freezes", Nights.drawing(x, 0), 1);
    }

    private void nightsAreNoDays() {
        s.holds(9, "A NIGHT: ICE.");
        FallowFerry x = Tell.ferry("thing 1 0 1 1;thing 1 0 1 1;fears 0 1;days 0;frost 9;");
        s.due("night() without a DAY, not SAFE", Nights.drawing(x, 0), 1);
        int[] now = {0, 2, 0, 1, 3, 2, 0};
        for (int k = 0; k < now.length; k++) s.due("now(" + k + ")", x.now(k), now[k]);
        s.due("count(3)", x.count(3), 0);
    }

    // ---- promise 10

    private void slideThatIsNone() {
        s.holds(10, "BAD; STATE: the ICE does not bear it, or not SAFE then.");
        for (int things = 0; things <= 7; things++) {
            FallowFerry x = Tell.ferry("thing 0 1 0 1;".repeat(things) + "frost 9;");
            for (int t : new int[] {-1, things, 7, 31, 32, 39, -25, MIN, MAX}) {
                s.due(things + " THINGS, no ICE, slide(" + t + ")", x.slide(t), BAD);
            }
            Nights.freeze(x, 9);
            for (int t : new int[] {-1, things, 7, 31, 32, 39, -25, MIN, MAX}) {
                s.due(things + " THINGS, slide(" + t + ")", x.slide(t), BAD);
            }
            if (things > 0) s.due(things + " THINGS, slide of the last", x.slide(things - 1), 1);
        }
    }

    private void slideOfWeight() {
        s.holds(10, "a THING of WEIGHT no more than ICE goes to the other BANK by itself");
        for (int weight = 1; weight <= 9; weight++) {
            FallowFerry x = Tell.ferry("thing 0 1 0 " + weight + ";frost 9;");
            for (int ice = 0; ice < weight; ice++) {
                s.due("WEIGHT " + weight + ", ICE " + ice + ", slide(0)", x.slide(0), STATE);
                Nights.freeze(x, ice + 1);
            }
            s.due("WEIGHT " + weight + ", ICE as much, slide(0)", x.slide(0), 1);
            Nights.freeze(x, weight - 1);
            s.due("WEIGHT " + weight + ", ICE less again, slide(0)", x.slide(0), STATE);
            Nights.freeze(x, 9);
            s.due("WEIGHT " + weight + ", ICE 9, slide(0)", x.slide(0), 0);
        }
    }

    private void slideEitherWay() {
        s.holds(10, "A SLIDE: its BANK then.");
        for (int ferry = 0; ferry <= 1; ferry++) {
            FallowFerry x = Tell.ferry("thing 0 1 0 9;thing 1 1 0 9;load 1;frost 9;ferry " + ferry + ";");
            Nights.freeze(x, 9);
            s.due("slide(0), ferry at " + ferry, x.slide(0), 1);
            s.due("slide(1), ferry at " + ferry, x.slide(1), 0);
            s.due("slide(0), ferry at " + ferry, x.slide(0), 0);
            s.due("slide(1), ferry at " + ferry, x.slide(1), 1);
            s.due("now(0), by itself", x.now(0), ferry);
        }
        FallowFerry x = Tell.ferry("thing 0 1 0 1;".repeat(7) + "frost 9;");
        Nights.freeze(x, 1);
        s.due("slide(6)", x.slide(6), 1);
        for (int t = 0; t < 7; t++) s.due("thing(" + t + ", 0)", x.thing(t, 0), t == 6 ? 1 : 0);
    }

    private void slideOnlySafe() {
        s.holds(10, "it must be SAFE then; no DAY goes by.");
        FallowFerry x = Tell.ferry("thing 1 2 0 1;thing 1 2 0 1;thing 0 2 0 1;thing 1 2 0 1;fears 0 1;fears 0 2;frost 9;");
        Nights.freeze(x, 1);
        s.due("slide(3), others are not SAFE", x.slide(3), STATE);
        s.due("slide(2), to whom it FEARS", x.slide(2), STATE);
        s.due("slide(1), from whom it FEARS", x.slide(1), 0);
        s.due("slide(3), SAFE by now", x.slide(3), 0);
        s.due("slide(1), to whom it FEARS", x.slide(1), STATE);
        s.due("slide(0), to where THE FERRY is", x.slide(0), 0);
        s.due("cross(0), those that it leaves", x.cross(0), STATE);
        s.due("slide(1)", x.slide(1), 1);
    }

    private void slideOfNoDay() {
        s.holds(10, "no DAY goes by.");
        FallowFerry x = Tell.ferry("thing 0 1 0 1;days 0;frost 9;");
        Nights.freeze(x, 1);
        s.due("slide(0) without a DAY", x.slide(0), 1);
        s.due("now(2)", x.now(2), 0);
        s.due("now(3)", x.now(3), 1);
        x = Tell.ferry("thing 0 1 0 1;days 20;frost 9;");
        Nights.freeze(x, 1);
        x.slide(0);
        s.due("now(2)", x.now(2), 20);
    }

    // ---- promise 11

    private void undoOfNone() {
        s.holds(11, "UNDONE: how many more may be. STATE: none.");
        FallowFerry x = Tell.ferry("thing 0 1 0 1;frost 9;");
        s.due("undo() of none", x.undo(), STATE);
        Nights.drawing(x, 0);
        s.due("undo() of a NIGHT", x.undo(), STATE);
        x.rest();
        s.due("undo() of one", x.undo(), 0);
        s.due("undo() of none any more", x.undo(), STATE);
        s.due("now(2)", x.now(2), 9);
        s.due("now(3)", x.now(3), 1);
    }

    private void undoOfTen() {
        s.holds(11, "(10 are known, older ones are lost)");
        for (int many = 1; many <= 20; many++) {
            FallowFerry x = Tell.ferry("days 20;");
            for (int k = 0; k < many; k++) {
                if (k % 3 == 2) x.rest(); else x.cross(0);
                s.due("count(3) behind " + (k + 1), x.count(3), Math.min(k + 1, 10));
            }
            int known = Math.min(many, 10);
            for (int k = many - 1; k >= many - known; k--) {
                s.due("undo() of " + many, x.undo(), k - (many - known));
                s.due("now(2), DAYS", x.now(2), 20 - k);
                s.due("now(0), THE FERRY", x.now(0), (k - k / 3) % 2);
            }
            s.due("undo() of " + many + ", none is known", x.undo(), STATE);
            s.due("now(2), DAYS", x.now(2), 20 - (many - known));
        }
    }

    private void undoOfSlides() {
        s.holds(11, "UNDONE: the latest CROSSING, DAY let go by or SLIDE");
        FallowFerry x = Tell.ferry("thing 0 1 0 1;thing 0 1 0 9;days 2;frost 9;");
        Nights.freeze(x, 1);
        for (int k = 1; k <= 11; k++) {
            s.due("slide(0), " + k, x.slide(0), k % 2);
            s.due("count(3)", x.count(3), Math.min(k, 10));
        }
        x.cross(1);
        s.due("cross(0), THE FERRY alone", x.cross(0), 1);
        s.due("rest()", x.rest(), 0);
        s.due("undo() of the DAY", x.undo(), 9);
        s.due("now(2)", x.now(2), 1);
        s.due("undo() of the CROSSING", x.undo(), 8);
        s.due("now(2)", x.now(2), 2);
        s.due("now(0)", x.now(0), 0);
        for (int k = 11; k >= 4; k--) {
            s.due("undo() of the SLIDE " + k, x.undo(), k - 4);
            s.due("thing(0, 0)", x.thing(0, 0), (k - 1) % 2);
        }
        s.due("undo() of older ones", x.undo(), STATE);
        s.due("thing(0, 0)", x.thing(0, 0), 1);
    }

    private void undoLeavesOthers() {
        s.holds(11, "THINGS, THE FERRY, DAYS are as ahead of it.");
        FallowFerry x = Tell.ferry("thing 0 1 0 2;frost 9;");
        x.cross(1);
        Nights.freeze(x, 7);
        x.saw(0, 0, 0);
        x.mark(0, 0);
        x.keep(0);
        x.lot(-5);
        s.due("undo()", x.undo(), 0);
        s.due("thing(0, 0)", x.thing(0, 0), 0);
        s.due("now(0)", x.now(0), 0);
        s.due("now(2)", x.now(2), 9);
        s.due("now(3), ICE stays", x.now(3), 7);
        s.due("count(2), SEEN stays", x.count(2), 1);
        s.due("trace(), it stays", x.trace(), 1);
        s.due("lot(0), it stays", x.lot(0), -5);
        s.due("back(0), the IMAGE stays", x.back(0), 8);
    }

    private void undoIsNotUndone() {
        s.holds(11, "UNDONE: how many more may be.");
        FallowFerry x = Tell.ferry("thing 0 1 0 1;");
        x.rest();
        x.rest();
        x.rest();
        s.due("undo()", x.undo(), 2);
        s.due("undo(), further back", x.undo(), 1);
        s.due("now(2)", x.now(2), 8);
        x.cross(1);
        s.due("count(3)", x.count(3), 2);
        s.due("undo()", x.undo(), 1);
        s.due("now(2)", x.now(2), 8);
        s.due("thing(0, 0)", x.thing(0, 0), 0);
        s.due("undo()", x.undo(), 0);
        s.due("now(2)", x.now(2), 9);
    }

    private void refusedIsNotUndone() {
        s.holds(11, "Refused, and nothing changes");
        FallowFerry x = Tell.ferry(Rivers.WOLF + "days 1;");
        s.due("rest()", x.rest(), 0);
        s.due("rest() refused", x.rest(), STATE);
        s.due("cross(2) refused", x.cross(2), STATE);
        s.due("cross(8) refused", x.cross(8), BAD);
        s.due("slide(0) refused", x.slide(0), STATE);
        s.due("slide(9) refused", x.slide(9), BAD);
        s.due("count(3)", x.count(3), 1);
        s.due("undo()", x.undo(), 0);
        s.due("undo() refused", x.undo(), STATE);
        s.due("now(2)", x.now(2), 1);
    }

    // ---- promise 12

    private void lot() {
        s.holds(12, "THE LOT becomes v: what it was.");
        FallowFerry x = new FallowFerry();
        int was = 1;
        for (int v : new int[] {0, -1, MIN, MAX, 1, MIN + 1, 65536, -9, -1000000}) {
            s.due("lot(" + v + ")", x.lot(v), was);
            was = v;
        }
        x.rest();
        x.cross(0);
        x.undo();
        x.done(-1);
        x.fits(5, 0);
        s.due("lot(2), none but a NIGHT goes on with it", x.lot(2), was);
    }
}
