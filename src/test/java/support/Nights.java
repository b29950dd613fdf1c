/** Nights whose DRAW a test chooses. */
final class Nights {
    private static final int TIMES = 1103515245, MORE = 12345;

    private Nights() { }

    /** What THE LOT must be, for it to be lotThen when it has gone on. */
    static int lotAhead(int lotThen) {
        int inverse = 1;
        // each time twice as many bits of it are right
        for (int k = 0; k < 5; k++) inverse *= 2 - TIMES * inverse;
        return (lotThen - MORE) * inverse;
    }

    static int drawing(FallowFerry x, int draw) {
        x.lot(lotAhead(draw << 16));
        return x.night();
    }

    /** The river's FROST must not be 0; THE LOT is another then. */
    static void freeze(FallowFerry x, int ice) {
        for (int k = x.now(3); k < ice; k++) drawing(x, 0);
        for (int k = x.now(3); k > ice; k--) drawing(x, 9);
    }
}
