/** An exchange at 22 in which each state has one call, after three changes. */
final class EveryState {
    static final String TEXT = "exchange 3 1;timeout 1;group a 1 0;route 9 1 a;line 1;line 2;line 3;line 4;line 6;"
        + "call 1 9 99 1;call 2 1 1 1;call 3 5 1 1;call 2 9 1 2;call 3 9 1 6;call 4 2 1 10;call 6 1 1 999;"
        + "call 2 4 1 20;call 3 4 1 20;call 4 55 1 21;call 6 4 1 21;call 1 1 1 999;";
    /** The call in each state, from 0 to 11. */
    static final int[] CALL_IN = {11, 10, 9, 8, 7, 0, 5, 1, 4, 2, 3, 6};
    /** What call(int, int) tells of each call, for 0 to 10. */
    static final int[][] CALLS = {
        {0, 1, 99, 1, 5, -1, 0, 4, -1, 81, -1},
        {1, 1, 1, 1, 7, -1, -1, -1, 6, 0, -1},
        {2, 1, 1, 1, 9, -1, -1, -1, 2, 0, -1},
        {1, 1, 1, 2, 10, -1, -1, -1, 2, 0, -1},
        {2, 1, 1, 6, 8, -1, -1, -1, 9, 0, -1},
        {3, 1, 1, 10, 6, 1, -1, 13, 14, 0, -1},
        {4, 1, 1, 999, 11, -1, -1, -1, 22, 0, -1},
        {1, 1, 1, 20, 4, -1, -1, -1, -1, 0, 0},
        {2, 1, 1, 20, 3, -1, -1, -1, -1, 0, 1},
        {3, 2, 1, 21, 2, -1, -1, -1, -1, 0, 2},
        {4, 1, 1, 21, 1, -1, -1, -1, -1, 0, -1},
        {0, 1, 1, 999, 0, -1, -1, -1, -1, 0, -1}};

    private EveryState() {
    }

    static ExchangeControl made() {
        ExchangeControl x = Checks.at(22, TEXT);
        x.hang(6);
        return x;
    }

    /** The same with a text in the buffer. */
    static ExchangeControl with(String buffer) {
        ExchangeControl x = made();
        Checks.put(x, buffer);
        return x;
    }
}
