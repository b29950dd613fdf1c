import java.util.ArrayList;
import java.util.List;

/**
 * All that calls tell of an object, in the order in which they tell it; behind it the object is another: what may
 * be UNDONE is undone, both IMAGES are gone back to, THE TEXT is read. At most some 350 calls.
 */
final class Look {
    private final FallowFerry x;
    private final List<String> told = new ArrayList<>();

    private Look(FallowFerry x) {
        this.x = x;
    }

    static List<String> at(FallowFerry x) {
        Look look = new Look(x);
        look.here();
        look.plans();
        look.past();
        for (int image = 0; image <= 1; image++) {
            look.tell("back(" + image + ")", x.back(image));
            look.here();
            look.past();
        }
        look.frost();
        look.text();
        return look.told;
    }

    private void tell(String call, long answer) {
        told.add(call + " = " + answer);
    }

    private void here() {
        for (int what = 0; what <= 6; what++) tell("now(" + what + ")", x.now(what));
        for (int what = 0; what <= 4; what++) tell("count(" + what + ")", x.count(what));
        for (int t = 0; t < x.count(0); t++) {
            for (int what = 0; what <= 4; what++) tell("thing(" + t + ", " + what + ")", x.thing(t, what));
        }
        tell("trace()", x.trace());
        int lot = x.lot(0);
        tell("lot(0)", lot);
        x.lot(lot);
    }

    private void plans() {
        tell("done(-1)", x.done(-1));
        tell("done(0)", x.done(0));
        tell("rent(20, -1)", x.rent(20, -1));
        tell("least()", x.least());
        tell("standings()", x.standings());
        for (int n = 0; n <= 5; n++) tell("fits(" + n + ", 0)", x.fits(n, 0));
    }

    private void past() {
        for (int k = 0; k <= 10; k++) {
            tell("undo()", x.undo());
            tell("now(0)", x.now(0));
            tell("now(2)", x.now(2));
            tell("now(4)", x.now(4));
        }
    }

    private void frost() {
        for (int k = 0; k < 10; k++) tell("night()", Nights.drawing(x, k));
    }

    private void text() {
        int has = x.count(4);
        if (has < 200) x.type(';', 1);
        tell("river()", x.river());
        tell("now(1)", x.now(1));
        tell("clear()", x.clear());
    }
}
