/** Rivers that more than one test goes to. */
final class Rivers {
    /** A wolf, a goat and a cabbage; the ferryman takes one: 7 CROSSINGS, 10 standings. */
    static final String WOLF =
        "thing 0 1 3 1;thing 0 1 5 1;thing 0 1 2 1;fears 0 1;fears 1 2;load 1;";

    /** 21 CROSSINGS, one more than LEAST RENT may ask for; the RENT by 20 is less than by 19. */
    static final String LONG =
        "thing 0 1 2 8;thing 1 0 2 7;thing 0 1 2 6;thing 1 0 3 5;thing 0 1 1 1;thing 1 0 2 4;thing 0 1 9 8;"
        + "fears 5 4;fears 1 4;fears 6 4;fears 3 4;fears 4 0;fears 2 3;load 8;";

    /** Many PLANS of 3 CROSSINGS: 3, 8, 4 is the first of them, and the first by no other order that comes to mind. */
    static final String MANY_PLANS =
        "thing 0 2 3 4;thing 0 1 9 1;thing 0 1 7 2;thing 1 0 5 4;fears 0 2;fears 1 2;load 7;";

    /** Seven THINGS that fear none, on BANK 0; all of them can cross at once. */
    static final String SEVEN = "thing 0 1 9 1;".repeat(7) + "load 7;";

    private Rivers() { }
}
