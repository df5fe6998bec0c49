/** An exchange that has as many of everything as there may be, but for its calls as many as are asked for. */
final class FullHouse {
    static final String TEXT = "exchange4 3;" + Checks.times(10, "line%d;") + "line00;line01;"
        + "group a1 0;group b8 7;group c8 0;group d2 1;group e3 2;" + Checks.times(8, "route%d 6e;");

    private FullHouse() {
    }

    /** The text has no room for more than 38 calls; the others are dialled. */
    static ExchangeControl withCalls(int calls) {
        ExchangeControl x = Checks.fresh(TEXT + Checks.times(Math.min(calls, 38), "call0 8 1 1;"));
        for (int k = 38; k < calls; k++) {
            Checks.dialled(x, 11, "8", 1);
        }
        return x;
    }

    static ExchangeControl made() {
        return withCalls(40);
    }
}
