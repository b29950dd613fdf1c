import java.util.List;
import java.util.function.Consumer;
import java.util.function.ToLongFunction;

/** What is refused, or only asked, changes nothing: an object with the call is told from one without by no other. */
public final class RefusedTest {
    private static final int BAD = -1, STATE = -2, FULL = -3, NO = -1000000;
    private static final String REFUSED = "Refused, and nothing changes, the first of these: "
        + "BAD (a number is not as told, or there is no such thing), STATE (as told), FULL.";

    private final Sentences s = new Sentences();
    private Consumer<FallowFerry> begin = x -> { };
    private String where = "";

    public static void main(String[] args) {
        RefusedTest t = new RefusedTest();
        t.ofNewObject();
        t.onTheWay();
        t.plansOnTheWay();
        t.plansOfUnsafe();
        t.atTheEnd();
        t.heavyAndUnsafe();
        t.faults();
        t.firstOfThese();
        t.askedAlone();
        t.s.end();
    }

    private void at(String place, Consumer<FallowFerry> how) {
        where = place;
        begin = how;
    }

    private void same(String call, long due, ToLongFunction<FallowFerry> made) {
        FallowFerry with = new FallowFerry();
        FallowFerry without = new FallowFerry();
        begin.accept(with);
        begin.accept(without);
        s.due(where + ", " + call, made.applyAsLong(with), due);
        s.due(where + ", " + call + " again", made.applyAsLong(with), due);
        List<String> behind = Look.at(with);
        List<String> ahead = Look.at(without);
        s.due(where + ", " + call + ": as many looks", behind.size(), ahead.size());
        for (int k = 0; k < Math.min(behind.size(), ahead.size()); k++) {
            boolean same = behind.get(k).equals(ahead.get(k));
            s.due(where + ", " + call + ": then " + behind.get(k) + ", was " + ahead.get(k), same ? 1 : 0, 1);
        }
    }

    private void refused(int promise, String call, long due, ToLongFunction<FallowFerry> made) {
        s.holds(promise, REFUSED);
        same(call, due, made);
    }

    // ---- where it is refused

    private void ofNewObject() {
        at("new object", x -> { });
        refused(2, "type(0, 0)", BAD, x -> x.type(0, 0));
        refused(2, "type(0, 9)", BAD, x -> x.type(0, 9));
        refused(5, "thing(0, 0)", BAD, x -> x.thing(0, 0));
        refused(7, "cross(1)", BAD, x -> x.cross(1));
        refused(10, "slide(0)", BAD, x -> x.slide(0));
        refused(11, "undo()", STATE, x -> x.undo());
        refused(16, "sooner(0)", NO, x -> x.sooner(0));
        refused(18, "saw(0, 0, 0)", BAD, x -> x.saw(0, 0, 0));
        refused(21, "owed(0, 0)", BAD, x -> x.owed(0, 0));
        refused(22, "mark(0, 0)", NO, x -> x.mark(0, 0));
        refused(24, "back(0)", STATE, x -> x.back(0));
        refused(24, "back(1)", STATE, x -> x.back(1));
    }

    /** The goat has crossed, THE FERRY is with it; an IMAGE is kept, two CROSSINGS and a DAY may be UNDONE. */
    private static void beOnTheWay(FallowFerry x) {
        Tell.river(x, Rivers.WOLF + "frost 9;days 17;");
        x.cross(2);
        x.saw(1, 1, 1);
        x.saw(5, 0, 0);
        x.keep(0);
        x.cross(0);
        x.rest();
        x.mark(5, 1);
        Tell.type(x, "load 3");
        x.lot(-77);
    }

    private void onTheWay() {
        at("on the way", RefusedTest::beOnTheWay);
        refused(2, "type(0, 0)", BAD, x -> x.type(0, 0));
        refused(2, "type(0, 9)", BAD, x -> x.type(0, 9));
        refused(4, "river()", -16, x -> x.river());
        refused(5, "thing(3, 0)", BAD, x -> x.thing(3, 0));
        refused(5, "thing(-1, 0)", BAD, x -> x.thing(-1, 0));
        refused(5, "thing(0, 5)", BAD, x -> x.thing(0, 5));
        refused(5, "thing(0, -1)", BAD, x -> x.thing(0, -1));
        refused(6, "now(7)", BAD, x -> x.now(7));
        refused(6, "now(-1)", BAD, x -> x.now(-1));
        refused(7, "cross(8)", BAD, x -> x.cross(8));
        refused(7, "cross(-1)", BAD, x -> x.cross(-1));
        refused(7, "cross(2), not there", STATE, x -> x.cross(2));
        refused(7, "cross(5), too heavy", STATE, x -> x.cross(5));
        refused(10, "slide(3)", BAD, x -> x.slide(3));
        refused(10, "slide(-1)", BAD, x -> x.slide(-1));
        refused(10, "slide(1), no ICE", STATE, x -> x.slide(1));
        refused(22, "mark(6, 0)", NO, x -> x.mark(6, 0));
        refused(22, "mark(-1, 0)", NO, x -> x.mark(-1, 0));
        refused(22, "mark(0, 3)", NO, x -> x.mark(0, 3));
        refused(22, "mark(5, -1)", NO, x -> x.mark(5, -1));
        refused(23, "keep(2)", BAD, x -> x.keep(2));
        refused(23, "keep(-1)", BAD, x -> x.keep(-1));
        refused(24, "back(2)", BAD, x -> x.back(2));
        refused(24, "back(-1)", BAD, x -> x.back(-1));
        refused(24, "back(1)", STATE, x -> x.back(1));
        refused(25, "count(5)", BAD, x -> x.count(5));
        refused(25, "count(-1)", BAD, x -> x.count(-1));
    }

    private void plansOnTheWay() {
        at("on the way", RefusedTest::beOnTheWay);
        refused(13, "done(-2)", BAD, x -> x.done(-2));
        refused(14, "rent(-1, -1)", BAD, x -> x.rent(-1, -1));
        refused(14, "rent(21, -1)", BAD, x -> x.rent(21, -1));
        refused(14, "rent(20, -2)", BAD, x -> x.rent(20, -2));
        refused(16, "sooner(3)", NO, x -> x.sooner(3));
        refused(16, "sooner(-1)", NO, x -> x.sooner(-1));
        refused(18, "saw(-1, 0, 0)", BAD, x -> x.saw(-1, 0, 0));
        refused(18, "saw(6, 0, 0)", BAD, x -> x.saw(6, 0, 0));
        refused(18, "saw(0, 3, 0)", BAD, x -> x.saw(0, 3, 0));
        refused(18, "saw(0, -1, 0)", BAD, x -> x.saw(0, -1, 0));
        refused(18, "saw(0, 0, 2)", BAD, x -> x.saw(0, 0, 2));
        refused(18, "saw(0, 0, -1)", BAD, x -> x.saw(0, 0, -1));
        refused(20, "fits(6, 0)", BAD, x -> x.fits(6, 0));
        refused(20, "fits(-1, 0)", BAD, x -> x.fits(-1, 0));
        refused(20, "fits(2, 3)", BAD, x -> x.fits(2, 3));
        refused(20, "fits(2, -1)", BAD, x -> x.fits(2, -1));
        refused(21, "owed(3, 1)", BAD, x -> x.owed(3, 1));
        refused(21, "owed(0, 51)", BAD, x -> x.owed(0, 51));
        refused(21, "owed(0, -1)", BAD, x -> x.owed(0, -1));
    }

    private void plansOfUnsafe() {
        at("not SAFE", x -> Tell.river(x, "thing 1 0 3 9;thing 1 0 4 9;fears 0 1;load 1;"));
        refused(7, "cross(1), not there", STATE, x -> x.cross(1));
        refused(13, "done(-2)", BAD, x -> x.done(-2));
        s.holds(13, "no ICE; nothing is changed.");
        same("done(-1)", -9, x -> x.done(-1));
        same("sooner(0)", NO, x -> x.sooner(0));
    }

    /** All is full: no DAY is left, ten may be UNDONE, eight are SEEN, THE TEXT has 200 bytes. */
    private static void beAtTheEnd(FallowFerry x) {
        Tell.river(x, Rivers.WOLF + "frost 9;days 12;");
        x.keep(1);
        x.cross(2);
        x.cross(0);
        x.keep(0);
        for (int k = 0; k < 10; k++) x.rest();
        Nights.freeze(x, 9);
        for (int k = 0; k < 8; k++) x.saw(1, 1, 1);
        Tell.type(x, " ".repeat(193) + "load 3;");
    }

    private void atTheEnd() {
        at("at the end", RefusedTest::beAtTheEnd);
        refused(2, "type(';', 1)", FULL, x -> x.type(';', 1));
        refused(2, "type(0, 8)", FULL, x -> x.type(0, 8));
        refused(2, "type(0, 9)", BAD, x -> x.type(0, 9));
        refused(7, "cross(0), no DAY is left", STATE, x -> x.cross(0));
        refused(7, "cross(1), no DAY is left", STATE, x -> x.cross(1));
        refused(7, "cross(16)", BAD, x -> x.cross(16));
        refused(8, "rest()", STATE, x -> x.rest());
        refused(10, "slide(3)", BAD, x -> x.slide(3));
        refused(18, "saw(1, 0, 1)", FULL, x -> x.saw(1, 0, 1));
        refused(18, "saw(6, 0, 1)", BAD, x -> x.saw(6, 0, 1));
        refused(23, "keep(2)", BAD, x -> x.keep(2));
        refused(24, "back(2)", BAD, x -> x.back(2));
        at("at the end, one byte less", x -> {
            beAtTheEnd(x);
            x.clear();
            Tell.type(x, " ".repeat(193) + "load 3");
        });
        refused(2, "type(\" ;\", 2), a part would go in", FULL, x -> x.type(' ' << 8 | ';', 2));
    }

    private void heavyAndUnsafe() {
        at("heavy and not SAFE", x -> {
            Tell.river(x, "thing 0 1 3 2;thing 0 1 5 3;thing 1 1 2 1;fears 0 1;fears 1 2;load 4;frost 9;");
            x.rest();
            Nights.freeze(x, 2);
        });
        refused(7, "cross(0), not SAFE then", STATE, x -> x.cross(0));
        refused(7, "cross(3), too heavy", STATE, x -> x.cross(3));
        refused(7, "cross(4), not there", STATE, x -> x.cross(4));
        refused(10, "slide(1), too heavy", STATE, x -> x.slide(1));
        at("ICE for all, not SAFE", x -> {
            Tell.river(x, "thing 0 1 3 2;thing 0 1 5 3;thing 1 1 2 1;fears 0 1;fears 1 2;load 4;frost 9;");
            x.rest();
            Nights.freeze(x, 9);
        });
        refused(10, "slide(1), not SAFE then", STATE, x -> x.slide(1));
        at("no DAY", x -> Tell.river(x, "days 0;"));
        refused(7, "cross(0)", STATE, x -> x.cross(0));
        refused(8, "rest()", STATE, x -> x.rest());
        refused(11, "undo()", STATE, x -> x.undo());
    }

    private void faults() {
        s.holds(4, "-10 less FAULT: nothing changes (THE TEXT, too, stays).");
        String[] texts = {"thing 1 0 1 1;ferry 1;load 9;days 1;frost 0;|;", "thing 1 0 1 1;fears 0 |0;", "|x",
            "ferry 1;|ferry 1;", "thing0 0 0 1;".repeat(7) + "|thing", "load 4;days 4|", "load 4;days |21;"};
        for (String marked : texts) {
            int place = marked.indexOf('|');
            at("with the text " + marked, x -> {
                beOnTheWay(x);
                x.clear();
                Tell.type(x, marked.replace("|", ""));
            });
            same("river()", -10 - place, x -> x.river());
        }
    }

    private void firstOfThese() {
        s.holds(7, "the first of these: BAD (a number is not as told, or there is no such thing), STATE (as told), FULL.");
        FallowFerry x = new FallowFerry();
        beAtTheEnd(x);
        s.due("cross(8), BAD ahead of STATE", x.cross(8), BAD);
        s.due("cross(15), BAD ahead of STATE", x.cross(15), BAD);
        s.due("slide(3), BAD ahead of STATE", x.slide(3), BAD);
        s.due("type(0, 0), BAD ahead of FULL", x.type(0, 0), BAD);
        s.due("saw(0, 0, 2), BAD ahead of FULL", x.saw(0, 0, 2), BAD);
        s.due("done(-2), BAD ahead of NONE", Tell.ferry("thing 0 1 0 9;").done(-2), BAD);
        s.due("back(2), BAD ahead of STATE", new FallowFerry().back(2), BAD);
    }

    private void askedAlone() {
        s.holds(13, "no ICE; nothing is changed.");
        at("on the way", RefusedTest::beOnTheWay);
        same("done(-1)", 5, x -> x.done(-1));
        same("done(4)", 2, x -> x.done(4));
        same("done(5)", -5, x -> x.done(5));
        same("rent(20, -1)", 0, x -> x.rent(20, -1));
        same("rent(1, 0)", 1, x -> x.rent(1, 0));
        same("least()", 1, x -> x.least());
        same("sooner(0)", 4, x -> x.sooner(0));
        same("standings()", 10, x -> x.standings());
        same("fits(5, 0)", 11, x -> x.fits(5, 0));
        same("fits(5, 5)", 6, x -> x.fits(5, 5));
        same("owed(0, 50)", 3011, x -> x.owed(0, 50));
        same("trace()", 100001, x -> x.trace());
    }
}
