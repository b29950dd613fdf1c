/** The edges that the document names for kinds and images: promises 22 to 26, their terms, and the 512th call. */
public final class EdgesOfKindsTest {
    private static final int BAD = -1, STATE = -2, NO = -1000000;
    private static final int MIN = Integer.MIN_VALUE, MAX = Integer.MAX_VALUE;
    private static final int CALLS_MOST = 512;
    private static final int[] TRACES = {1, 11, 101, 1011, 10101, 100001};

    private final Sentences s = new Sentences();

    public static void main(String[] args) {
        EdgesOfKindsTest t = new EdgesOfKindsTest();
        t.markOfWhat();
        t.markOfNoThing();
        t.markBelowNone();
        t.markOfLeast();
        t.markOfMost();
        t.markOfFears();
        t.markOfIce();
        t.traceOfEach();
        t.traceOfRefused();
        t.traceOfAllCalls();
        t.traceStays();
        t.keepOfWhich();
        t.keepAnew();
        t.backOfWhich();
        t.backOfNoneKept();
        t.backOfNow();
        t.backOfUndone();
        t.backNothingElse();
        t.backAgain();
        t.twoImages();
        t.countOfWhat();
        t.countOfLeast();
        t.countOfMost();
        t.lastCall();
        t.s.end();
    }

    // ---- promise 22

    private void markOfWhat() {
        s.holds(22, "MARK. NO: BAD.");
        FallowFerry x = Tell.ferry("thing 0 1 5 7;");
        for (int kind : new int[] {-1, 6, 7, 255, 256, MIN, MAX}) s.due("mark(" + kind + ", 0)", x.mark(kind, 0), NO);
        int[] due = {5, 12, 5, 24, 5, 5};
        for (int kind = 0; kind <= 5; kind++) s.due("mark(" + kind + ", 0)", x.mark(kind, 0), due[kind]);
    }

    private void markOfNoThing() {
        s.holds(22, "(a number is not as told, or there is no such thing)");
        for (int things = 0; things <= 7; things++) {
            FallowFerry x = Tell.ferry("thing 0 1 5 7;".repeat(things));
            for (int t : new int[] {-1, things, 7, 31, 32, -32, MIN, MAX}) {
                for (int kind = -1; kind <= 6; kind++) {
                    s.due(things + " THINGS, mark(" + kind + ", " + t + ")", x.mark(kind, t), NO);
                }
            }
            s.due(things + " THINGS, trace()", x.trace(), 0);
            if (things > 0) s.due(things + " THINGS, mark of the last", x.mark(4, things - 1), 5 + things - 1);
        }
    }

    private void marks(FallowFerry x, int t, int... due) {
        for (int kind = 0; kind <= 5; kind++) s.due("mark(" + kind + ", " + t + ")", x.mark(kind, t), due[kind]);
    }

    private void markBelowNone() {
        s.holds(22, "`NO = -1000000`: What none is, where a number may be below 0.");
        FallowFerry x = Tell.ferry("thing 0 0 0 1;thing 0 0 0 1;fears 0 1;");
        s.due("NO", FallowFerry.NO, -1000000);
        s.due("mark(2, 0), below 0, but not NO", x.mark(2, 0), -1);
        s.due("mark(2, 2)", x.mark(2, 2), NO);
        s.due("mark(2, -1)", x.mark(2, -1), NO);
        s.due("sooner(2)", x.sooner(2), NO);
    }

    private void markOfLeast() {
        s.holds(22, "COW up, and WEIGHT (10). BRIDE up less how many it FEARS (100). TWIN up times 2 (1000).");
        marks(Tell.ferry("thing 0 0 0 1;"), 0, 0, 1, 0, 2, 0, 0);
        FallowFerry x = Tell.ferry("thing 0 0 0 1;".repeat(7) + "fears0 1;fears0 2;fears0 3;fears0 4;fears0 5;fears0 6;");
        marks(x, 0, 0, 1, -6, 2, -6, 0);
        marks(x, 6, 0, 1, -1, 2, 5, 0);
    }

    private void markOfMost() {
        s.holds(22, "BISHOP up, and its number (10000). BOOT up, and ICE (100000).");
        FallowFerry x = Tell.ferry("thing 0 0 9 9;".repeat(7) + "frost 9;");
        Nights.freeze(x, 9);
        for (int t = 0; t < 7; t++) marks(x, t, 9, 18, 9, 36, 9 + t, 18);
    }

    private void markOfFears() {
        s.holds(22, "BRIDE up less how many it FEARS (100).");
        FallowFerry x = Tell.ferry("thing 0 0 4 1;thing 0 0 4 1;thing 0 0 4 1;fears 0 1;fears 1 0;fears 0 1;fears 2 1;");
        int[] due = {3, 2, 3};
        for (int t = 0; t < 3; t++) {
            s.due("mark(2, " + t + ")", x.mark(2, t), due[t]);
            s.due("mark(4, " + t + ")", x.mark(4, t), due[t] + t);
        }
    }

    private void markOfIce() {
        s.holds(22, "BOOT up, and ICE (100000).");
        FallowFerry x = Tell.ferry("thing 0 1 3 1;frost 9;");
        for (int ice = 0; ice <= 9; ice++) {
            Nights.freeze(x, ice);
            s.due("mark(5, 0) at ICE " + ice, x.mark(5, 0), 3 + ice);
        }
        x.rest();
        x.slide(0);
        s.due("mark(5, 0), where it is WRONG or not", x.mark(5, 0), 12);
    }

    // ---- promise 26

    private void traceOfEach() {
        s.holds(26, "numbers in brackets come to THE TRACE (0 at first; of all calls ever, together) "
            + "as often as mark() asks that body");
        for (int kind = 0; kind <= 5; kind++) {
            FallowFerry x = Tell.ferry("thing 0 1 5 7;");
            s.due("trace() at first", x.trace(), 0);
            x.mark(kind, 0);
            s.due("trace() behind KIND " + kind, x.trace(), TRACES[kind]);
            x.mark(kind, 0);
            s.due("trace() behind KIND " + kind + " twice", x.trace(), 2L * TRACES[kind]);
        }
    }

    private void traceOfRefused() {
        s.holds(26, "Refused, and nothing changes");
        FallowFerry x = Tell.ferry("thing 0 1 5 7;");
        x.mark(1, 0);
        for (int kind = -1; kind <= 6; kind++) {
            x.mark(kind, 1);
            x.mark(kind, -1);
        }
        x.mark(-1, 0);
        x.mark(6, 0);
        s.due("trace()", x.trace(), 11);
    }

    private void traceOfAllCalls() {
        s.holds(26, "of all calls ever, together");
        FallowFerry x = Tell.ferry("thing 0 1 5 7;thing 0 1 5 7;");
        long sum = 0;
        for (int k = 0; k < 240; k++) {
            int kind = k % 6;
            x.mark(kind, k % 2);
            sum += TRACES[kind];
            s.due("trace() behind " + (k + 1), x.trace(), sum);
        }
    }

    private void traceStays() {
        s.holds(26, "THE TRACE stays.)");
        FallowFerry x = Tell.ferry("thing 0 1 5 7;");
        x.keep(0);
        x.rest();
        x.mark(3, 0);
        x.undo();
        s.due("trace() behind undo()", x.trace(), 1011);
        x.back(0);
        s.due("trace() behind back()", x.trace(), 1011);
        Tell.river(x, "thing 0 1 5 7;");
        s.due("trace() behind river()", x.trace(), 1011);
        x.mark(5, 0);
        s.due("trace() goes on", x.trace(), 101012);
    }

    // ---- promise 23

    private void keepOfWhich() {
        s.holds(23, "An IMAGE is kept: DAYS. BAD.");
        FallowFerry x = Tell.ferry("days 20;");
        for (int image : new int[] {-1, 2, 3, 256, MIN, MAX}) s.due("keep(" + image + ")", x.keep(image), BAD);
        s.due("keep(0)", x.keep(0), 20);
        s.due("back(1), none was kept", x.back(1), STATE);
        x.rest();
        s.due("keep(1)", x.keep(1), 19);
        s.due("back(0)", x.back(0), 20);
        s.due("keep(0) of no DAY", Tell.ferry("days 0;").keep(0), 0);
    }

    private void keepAnew() {
        s.holds(23, "An IMAGE is kept: DAYS.");
        FallowFerry x = Tell.ferry("thing 0 1 5 1;");
        s.due("keep(0)", x.keep(0), 9);
        x.cross(1);
        s.due("keep(0) anew", x.keep(0), 8);
        x.rest();
        s.due("back(0)", x.back(0), 8);
        s.due("thing(0, 0)", x.thing(0, 0), 1);
        s.due("count(3)", x.count(3), 1);
        s.due("back(0) again", x.back(0), 8);
    }

    // ---- promise 24

    private void backOfWhich() {
        s.holds(24, "All of that becomes as an IMAGE has it: DAYS. BAD; STATE: none was kept.");
        FallowFerry x = Tell.ferry("days 20;");
        for (int k = 0; k < 2; k++) {
            for (int image : new int[] {-1, 2, 3, 256, MIN, MAX}) s.due("back(" + image + ")", x.back(image), BAD);
            x.keep(0);
            x.keep(1);
        }
    }

    private void backOfNoneKept() {
        s.holds(24, "STATE: none was kept.");
        for (int image = 0; image <= 1; image++) {
            FallowFerry x = Tell.ferry("thing 0 1 5 1;");
            x.rest();
            s.due("back(" + image + ")", x.back(image), STATE);
            x.keep(1 - image);
            s.due("back(" + image + "), the other is kept", x.back(image), STATE);
            s.due("now(2)", x.now(2), 8);
            s.due("count(3)", x.count(3), 1);
            s.due("back of the other", x.back(1 - image), 8);
            Tell.river(x, "");
            s.due("back(" + image + ") behind river()", x.back(image), STATE);
            s.due("back of the other behind river()", x.back(1 - image), STATE);
        }
    }

    private void backOfNow() {
        s.holds(24, "IMAGES 0, 1 keep NOW (BANKS, THE FERRY, DAYS, ICE, THE LOT, what may be UNDONE)");
        FallowFerry x = Tell.ferry("thing 0 1 5 1;thing 0 1 4 1;days 20;frost 9;");
        x.cross(2);
        Nights.freeze(x, 5);
        x.lot(MIN);
        x.keep(1);
        x.lot(3);
        x.cross(0);
        x.cross(1);
        x.slide(1);
        Nights.freeze(x, 2);
        s.due("back(1)", x.back(1), 19);
        int[] now = {1, 2, 19, 5, 1, 5, 1};
        for (int k = 0; k < now.length; k++) s.due("now(" + k + ")", x.now(k), now[k]);
        s.due("thing(0, 0)", x.thing(0, 0), 0);
        s.due("thing(1, 0)", x.thing(1, 0), 1);
        s.due("count(3)", x.count(3), 1);
        s.due("lot(0)", x.lot(0), MIN);
        s.due("undo()", x.undo(), 0);
        s.due("thing(1, 0), UNDONE", x.thing(1, 0), 0);
        s.due("undo() of none", x.undo(), STATE);
    }

    private void backOfUndone() {
        s.holds(24, "what may be UNDONE");
        for (int many = 0; many <= 10; many++) {
            FallowFerry x = Tell.ferry("days 20;");
            for (int k = 0; k < many; k++) x.cross(0);
            x.keep(0);
            for (int k = 0; k < many; k++) x.undo();
            // other days than the image's
            for (int k = 0; k < 20; k++) x.rest();
            s.due("back(0) of " + many, x.back(0), 20 - many);
            s.due("count(3) of " + many, x.count(3), many);
            for (int k = many - 1; k >= 0; k--) {
                s.due("undo() of " + many, x.undo(), k);
                s.due("now(2)", x.now(2), 20 - k);
                s.due("now(0)", x.now(0), k % 2);
            }
            s.due("undo() of none", x.undo(), STATE);
        }
    }

    private void backNothingElse() {
        s.holds(24, "what may be UNDONE); nothing else.");
        FallowFerry x = Tell.ferry(Rivers.WOLF);
        x.saw(0, 0, 0);
        x.keep(0);
        x.saw(1, 1, 1);
        x.mark(0, 0);
        x.keep(1);
        Tell.type(x, "load");
        s.due("back(0)", x.back(0), 9);
        int[] counts = {3, 2, 2, 0, 4};
        for (int k = 0; k < counts.length; k++) s.due("count(" + k + ")", x.count(k), counts[k]);
        s.due("trace()", x.trace(), 1);
        s.due("fits(1, 0)", x.fits(1, 0), 1);
        s.due("back(1), the other IMAGE stays", x.back(1), 9);
        s.due("clear()", x.clear(), 4);
        x.forget();
        s.due("back(0)", x.back(0), 9);
        s.due("count(2), what was forgotten", x.count(2), 0);
    }

    private void backAgain() {
        s.holds(24, "All of that becomes as an IMAGE has it: DAYS.");
        FallowFerry x = Tell.ferry("thing 0 1 5 1;days 20;frost 9;");
        Nights.freeze(x, 1);
        x.cross(1);
        x.lot(4);
        x.keep(0);
        for (int k = 0; k < 3; k++) {
            x.slide(0);
            x.undo();
            x.undo();
            for (int j = 0; j < 3; j++) x.rest();
            x.night();
            s.due("back(0)", x.back(0), 19);
            s.due("now(3)", x.now(3), 1);
            s.due("thing(0, 0)", x.thing(0, 0), 1);
            s.due("count(3)", x.count(3), 1);
            s.due("lot(4)", x.lot(4), 4);
        }
        s.due("undo()", x.undo(), 0);
        s.due("now(2)", x.now(2), 20);
    }

    private void twoImages() {
        s.holds(24, "IMAGES 0, 1 keep NOW");
        FallowFerry x = Tell.ferry("days 20;");
        x.keep(0);
        x.cross(0);
        x.keep(1);
        x.rest();
        for (int k = 0; k < 2; k++) {
            s.due("back(0)", x.back(0), 20);
            s.due("count(3)", x.count(3), 0);
            s.due("now(0)", x.now(0), 0);
            s.due("back(1)", x.back(1), 19);
            s.due("count(3)", x.count(3), 1);
            s.due("now(0)", x.now(0), 1);
        }
        s.due("keep(0) of what back(1) made", x.keep(0), 19);
        x.undo();
        s.due("back(0)", x.back(0), 19);
    }

    // ---- promise 25

    private void countOfWhat() {
        s.holds(25, "0 THINGS, 1 pairs of FEARS (as told), 2 SEEN, 3 how many may be UNDONE, 4 bytes of THE TEXT. BAD.");
        FallowFerry x = Tell.ferry(Rivers.WOLF + "fears 0 1;fears 1 0;");
        for (int k = 0; k < 6; k++) x.saw(0, 0, 0);
        for (int k = 0; k < 5; k++) x.rest();
        Tell.type(x, "load 30;");
        int[] counts = {3, 4, 6, 5, 8};
        for (int k = 0; k < counts.length; k++) s.due("count(" + k + ")", x.count(k), counts[k]);
        for (int what : new int[] {-1, 5, 6, 32, 256, MIN, MAX}) s.due("count(" + what + ")", x.count(what), BAD);
    }

    private void countOfLeast() {
        s.holds(25, "3 how many may be UNDONE, 4 bytes of THE TEXT. BAD.");
        FallowFerry x = Tell.ferry("thing 0 0 0 1;");
        int[] counts = {1, 0, 0, 0, 0};
        for (int k = 0; k < counts.length; k++) s.due("count(" + k + ")", x.count(k), counts[k]);
        x.night();
        x.undo();
        s.due("count(3), a NIGHT is not to be UNDONE", x.count(3), 0);
    }

    private void countOfMost() {
        s.holds(25, "0 THINGS, 1 pairs of FEARS (as told), 2 SEEN, 3 how many may be UNDONE, 4 bytes of THE TEXT. BAD.");
        FallowFerry x = Tell.ferry("thing0 0 0 1;".repeat(7) + "fears0 1;".repeat(8) + "days20;");
        for (int k = 0; k < 9; k++) x.saw(0, 0, 0);
        for (int k = 0; k < 11; k++) x.rest();
        Tell.type(x, "x".repeat(201));
        int[] counts = {7, 8, 8, 10, 200};
        for (int k = 0; k < counts.length; k++) s.due("count(" + k + ")", x.count(k), counts[k]);
    }

    // ---- the last call

    private void lastCall() {
        s.holds(26, "An object is used for at most 512 calls after it has been made");
        FallowFerry x = new FallowFerry();
        x.type(Tell.bytes("thing0 1"), 8);
        x.type(Tell.bytes(" 9 9;"), 5);
        x.river();
        for (int k = 4; k < CALLS_MOST; k++) x.mark(5, 0);
        s.due("the 512th call, trace()", x.trace(), 508L * 100001);
        x = new FallowFerry();
        int lot = 1;
        for (int k = 1; k < CALLS_MOST; k++) {
            x.night();
            lot = lot * 1103515245 + 12345;
        }
        s.due("the 512th call, lot(0)", x.lot(0), lot);
    }
}
