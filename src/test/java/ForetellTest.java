/** Promises 14 to 16: overIn, foretold and bestGuard. */
final class ForetellTest {
    private static final Checks checks = new Checks();
    private static final String ONE = "exchange 1 1;line 11;line 12;call 11 12 3 1;call 12 5 1 700;";

    public static void main(String[] args) {
        overIn();
        overInOrder();
        foretold();
        bestGuard();
        checks.end();
    }

    private static void overIn() {
        ExchangeControl x = Checks.fresh(ONE);
        long before = x.checksum();
        checks.due("overIn(0)", x.overIn(0), 8);
        checks.due("not within 600 ticks", x.overIn(1), -1);
        checks.due("nothing has changed", x.checksum(), before);
        checks.due("no change", x.undo(), 0);
        ExchangeControl y = Checks.at(7, ONE);
        checks.due("in the next tick", y.overIn(0), 1);
        y.pass(1);
        checks.due("it is over", y.overIn(0), 0);
        y.pass(98);
        // call 1 comes at 700, has dialled at 701 and is given up at 705
        checks.due("at 106", y.overIn(1), 599);
        ExchangeControl z = Checks.at(104, ONE);
        checks.due("601 ticks", z.overIn(1), -1);
        z.pass(1);
        checks.due("600 ticks", z.overIn(1), 600);
        checks.dueThrow("overIn(2)", IndexOutOfBoundsException.class, () -> z.overIn(2));
        checks.dueThrow("overIn(-1)", IndexOutOfBoundsException.class, () -> z.overIn(-1));
    }

    private static void overInOrder() {
        ExchangeControl x = Checks.at(1, "exchange 1 1;timeout 3;line 1;line 2;line 3;call 1 5 1 2;call 2 5 1 1;"
            + "call 3 5 1 1;");
        // call 1 has the register from 1 to 4, call 2 to 7, and call 0, which comes behind it, to 10
        for (int time = 1; time <= 3; time++) {
            checks.due("call 0 at " + time, x.overIn(0), 10 - time);
            checks.due("call 1 at " + time, x.overIn(1), 4 - time);
            checks.due("call 2 at " + time, x.overIn(2), 7 - time);
            x.pass(1);
        }
    }

    private static void foretold() {
        ExchangeControl x = Checks.fresh(ONE);
        long before = x.checksum();
        int[] states = {2, 2, 4, 4, 5, 5, 5, 6, 6};
        for (int ticks = 1; ticks <= states.length; ticks++) {
            checks.due("foretold(" + ticks + ")", x.foretold(ticks, states[ticks - 1]), 1);
        }
        checks.due("one comes later", x.foretold(600, 0), 1);
        ExchangeControl talks = Checks.at(5, "exchange 1 1;line 11;line 12;call 11 12 3 1;");
        checks.due("the only call talks", talks.foretold(3, 6), 1);
        talks.hang(0);
        checks.due("it is hung up", talks.foretold(1, 11), 1);
        checks.due("nothing has changed", x.checksum(), before);
        checks.dueThrow("foretold(0, 0)", IllegalArgumentException.class, () -> x.foretold(0, 0));
        checks.dueThrow("foretold(601, 0)", IllegalArgumentException.class, () -> x.foretold(601, 0));
        checks.dueThrow("foretold(1, -1)", IllegalArgumentException.class, () -> x.foretold(1, -1));
        checks.dueThrow("foretold(1, 12)", IllegalArgumentException.class, () -> x.foretold(1, 12));
    }

    private static void bestGuard() {
        checks.due("no calls", new ExchangeControl().bestGuard(), 1);
        ExchangeControl x = Checks.fresh("exchange 1 1;line 1;line 2;line 3;line 4;group a 8 0;route 9 1 a;"
            + "call 1 9 1 1;call 2 9 1 1;call 3 9 1 1;call 4 9 1 99;");
        long before = x.checksum();
        checks.due("three come at once", x.bestGuard(), 3);
        checks.due("nothing has changed", x.checksum(), before);
        x.pass(1);
        checks.due("they have come", x.bestGuard(), 1);
        // two lines that call one another, if both get in: each finds the other busy
        ExchangeControl y = Checks.fresh("exchange 2 2;guard 9;line 1;line 2;call 1 2 1 1;call 2 1 1 1;");
        checks.due("a small guard is better", y.bestGuard(), 1);
        checks.due("the guard stays", y.state(19), 9);
        // calls that end after 300 ticks are of no account
        ExchangeControl z = Checks.fresh("exchange 1 1;line 1;line 2;group a 8 0;route 9 1 a;"
            + "call 1 9 1 297;call 2 9 1 297;");
        checks.due("only one ends in time", z.bestGuard(), 1);
    }
}
