/** The bounds of what is foretold: promises 14 to 16. */
final class ForetellBoundsTest {
    private static final Checks checks = new Checks();
    private static final String SETUP = "exchange 1 1;line 1;";

    public static void main(String[] args) {
        overInOfEveryState();
        overInHorizon();
        overInByTick();
        overInFullHouse();
        foretoldBounds();
        foretoldHorizon();
        foretoldAsItPasses();
        foretoldFullHouse();
        foretoldQueues();
        foretellingChangesNothing();
        guardForLines();
        guardHorizon();
        guardOfSeveral();
        guardOfThoseThatWait();
        guardFromNow();
        checks.end();
    }

    private static void overInOfEveryState() {
        ExchangeControl x = EveryState.made();
        // the one in 2 is given up at 23 and its register goes to the one in 1, that is complete at 24; the marker finds
        // the line busy for the one in 4 at 23, a way for the one in 3 at 25, and a way for the one in 1 at 27
        int[] due = {-1, 6, 1, 4, 1, 81, 0, 0, 0, 0, 0, 0};
        for (int state = 0; state <= 11; state++) {
            checks.due("over in, from state " + state, x.overIn(EveryState.CALL_IN[state]), due[state]);
        }
        for (int call = 0; call < 12; call++) {
            ExchangeControl y = EveryState.made();
            int over = -1;
            for (int ticks = 0; ticks <= 600 && over < 0; ticks++) {
                over = y.call(call, 4) >= 6 ? ticks : -1;
                y.pass(1);
            }
            checks.due("as it passes, call " + call, x.overIn(call), over);
        }
        for (int call : new int[] {-1, 12, 13, 40, Integer.MIN_VALUE, Integer.MAX_VALUE}) {
            checks.refused("overIn(" + call + ")", IndexOutOfBoundsException.class, EveryState::made, y -> y.overIn(call));
        }
        checks.refused("overIn(0) of no calls", IndexOutOfBoundsException.class, ExchangeControl::new, y -> y.overIn(0));
    }

    /** A call that is given up at n is over in n ticks, if these are no more than 600. */
    private static void overInHorizon() {
        for (int comes = 590; comes <= 599; comes++) {
            ExchangeControl x = Checks.fresh(SETUP + "call 1 5 9 " + comes + ";");
            checks.due("given up at " + (comes + 5), x.overIn(0), comes + 5 <= 600 ? comes + 5 : -1);
            x.pass(1);
            checks.due("a tick later", x.overIn(0), comes + 5 <= 601 ? comes + 4 : -1);
        }
        ExchangeControl y = Checks.fresh(SETUP + "call 1 1 9 999;call 1 1 9 600;call 1 1 9 601;call 1 1 9 600;");
        checks.due("refused at 600", y.overIn(3), 600);
        checks.due("busy at 603", y.overIn(1), -1);
        checks.due("refused at 601", y.overIn(2), -1);
        y.pass(1);
        checks.due("in 600 ticks from 1", y.overIn(2), 600);
    }

    private static void overInByTick() {
        ExchangeControl x = Checks.fresh("exchange 1 1;line 1;line 2;call 1 2 99 1;");
        for (int time = 0; time <= 103; time++) {
            checks.due("at " + time, x.overIn(0), 103 - time);
            x.pass(1);
        }
        checks.due("at 104", x.overIn(0), 0);
    }

    private static void overInFullHouse() {
        ExchangeControl x = FullHouse.made();
        // comes at 1, digit at 2, way at 4
        checks.due("the first call", x.overIn(0), 5);
        for (int call = 1; call < 38; call++) {
            checks.due("refused in the next tick", x.overIn(call), 1);
        }
        checks.due("the last call", x.overIn(39), 1);
        x.pass(5);
        checks.due("all is over", x.overIn(0) + x.overIn(38) + x.overIn(39), 0);
    }

    private static void foretoldBounds() {
        Checks.Maker[] makers = {EveryState::made, ExchangeControl::new};
        for (Checks.Maker maker : makers) {
            for (int ticks : new int[] {0, 601, 602, -1, Integer.MIN_VALUE, Integer.MAX_VALUE}) {
                for (int state : new int[] {0, 11, -1, 12}) {
                    checks.refused("foretold(" + ticks + ", " + state + ")", IllegalArgumentException.class, maker,
                        x -> x.foretold(ticks, state));
                }
            }
            for (int state : new int[] {-1, 12, 13, Integer.MIN_VALUE, Integer.MAX_VALUE}) {
                for (int ticks : new int[] {1, 600}) {
                    checks.refused("foretold(" + ticks + ", " + state + ")", IllegalArgumentException.class, maker,
                        x -> x.foretold(ticks, state));
                }
            }
        }
        ExchangeControl x = new ExchangeControl();
        for (int state = 0; state <= 11; state++) {
            checks.due("no calls", x.foretold(1, state) + x.foretold(600, state), 0);
        }
    }

    private static void foretoldHorizon() {
        for (int comes = 599; comes <= 602; comes++) {
            ExchangeControl x = Checks.fresh(SETUP + "call 1 5 9 " + comes + ";");
            for (int ticks = 598; ticks <= 600; ticks++) {
                checks.due("comes at " + comes + ", in " + ticks, x.foretold(ticks, 0), ticks < comes ? 1 : 0);
                checks.due("dials then", x.foretold(ticks, 2), ticks < comes ? 0 : 1);
            }
            x.pass(2);
            checks.due("from 2 on", x.foretold(600, 0), 602 < comes ? 1 : 0);
        }
    }

    /** What is foretold for each number of ticks and each state is what then passes. */
    private static void foretoldAsItPasses() {
        ExchangeControl x = EveryState.made();
        ExchangeControl y = EveryState.made();
        for (int ticks = 1; ticks <= 600; ticks++) {
            y.pass(1);
            int all = 0;
            for (int state = 0; state <= 11; state++) {
                int told = x.foretold(ticks, state);
                all += told;
                if (told != y.state(7 + state)) {
                    checks.due("foretold(" + ticks + ", " + state + ")", told, y.state(7 + state));
                }
            }
            checks.due("each call is in one state", all, 12);
        }
        checks.due("nothing has passed", x.checksum(), EveryState.made().checksum());
    }

    /** With 40 calls that are all open, and when all are over. */
    private static void foretoldFullHouse() {
        ExchangeControl x = FullHouse.made();
        checks.due("all are to come", x.state(7), 40);
        checks.due("one of each of two lines comes in", x.foretold(1, 2), 2);
        checks.due("38 are refused", x.foretold(1, 10), 38);
        checks.due("none is to come", x.foretold(1, 0), 0);
        checks.due("one ends well", x.foretold(600, 6), 1);
        checks.due("the other finds the line busy", x.foretold(600, 7), 1);
        checks.due("any guard does for two", x.bestGuard(), 1);
        x.pass(10);
        checks.due("all are over", x.foretold(1, 10) * 100 + x.foretold(600, 6) * 10 + x.foretold(300, 7), 3811);
    }

    /** Those that wait are foretold in their order, before those that come later, also by an object's first foretelling. */
    private static void foretoldQueues() {
        String text = "exchange 1 1;timeout 3;line 1;line 2;line 3;line 4;line 5;call 1 9 1 5;call 2 9 1 1;call 3 9 1 3;"
            + "call 4 9 1 2;call 5 9 1 1;";
        // they have the register one behind the other, for 3 ticks each: calls 1, 4, 3, 2, 0
        int[] over = {16, 4, 13, 10, 7};
        for (int time = 0; time <= 16; time++) {
            for (int call = 0; call < 5; call++) {
                ExchangeControl x = Checks.fresh(text);
                if (time > 0) {
                    x.pass(time);
                }
                checks.due("call " + call + " at " + time, x.overIn(call), Math.max(over[call] - time, 0));
            }
        }
        // the same with a marker that works for 3 ticks
        String marked = "exchange 4 1;work 3;line 1;line 22;line 333;line 4;line 5;line 6;group a 8 0;route 7 3 a;"
            + "call 4 789 1 1;call 5 1 1 1;call 6 22 1 1;";
        int[] ends = {12, 6, 9};
        for (int time = 0; time <= 12; time++) {
            for (int call = 0; call < 3; call++) {
                ExchangeControl x = Checks.fresh(marked);
                if (time > 0) {
                    x.pass(time);
                }
                checks.due("marked call " + call + " at " + time, x.overIn(call), Math.max(ends[call] - time, 0));
            }
        }
    }

    private static void foretellingChangesNothing() {
        ExchangeControl x = EveryState.with("exchange 1 1;line 1;");
        for (int times = 0; times < 9; times++) {
            x.foretold(600, 6);
            x.foretold(1, 0);
            x.overIn(0);
            x.overIn(11);
            x.bestGuard();
        }
        checks.alike("foretold", x, EveryState.with("exchange 1 1;line 1;"));
        ExchangeControl y = new ExchangeControl();
        checks.due("no calls: any guard does, so the least", y.bestGuard(), 1);
        checks.alike("foretold of a new object", y, new ExchangeControl());
    }

    /** As many lines call at once as the guard must let in. */
    private static void guardForLines() {
        for (int lines = 1; lines <= 12; lines++) {
            StringBuilder text = new StringBuilder("exchange 1 1;work 1;group a 8 0;route 9 1 a;");
            for (int line = 0; line < lines; line++) {
                text.append("line 1").append(line).append(";call 1").append(line).append(" 9 1 1;");
            }
            ExchangeControl x = Checks.fresh(text.toString());
            checks.due("lines " + lines, x.bestGuard(), lines);
            x.rule(19, 1);
            checks.due("whatever the guard is", x.bestGuard(), lines);
            x.pass(1);
            checks.due("what is refused stays so", x.bestGuard(), 1);
            x.undo();
            x.rule(19, x.bestGuard());
            x.pass(300);
            checks.due("all end well", x.state(13), lines);
        }
    }

    /** Of two calls at 200 the second one ends in time if it talks for no more than 96 ticks. */
    private static void guardHorizon() {
        for (int talk = 94; talk <= 99; talk++) {
            String text = "exchange 1 1;work 1;line 1;line 2;group a 8 0;route 9 1 a;call 1 9 1 C;call 2 9 " + talk + " C;";
            checks.due("ends at " + (204 + talk), Checks.fresh(text.replace("C", "200")).bestGuard(), talk <= 96 ? 2 : 1);
            checks.due("at 50, ends at " + (254 + talk), Checks.at(50, text.replace("C", "250")).bestGuard(), talk <= 96 ? 2 : 1);
            checks.due("at 49, ends at " + (254 + talk), Checks.at(49, text.replace("C", "250")).bestGuard(), talk <= 95 ? 2 : 1);
        }
    }

    /** A guard that lets more in than ends well is not better than the least one that does as well. */
    private static void guardOfSeveral() {
        String text = "exchange 1 1;work 1;line 1;line 2;line 3;line 4;line 5;group a 8 0;route 9 1 a;"
            + "call 1 9 1 1;call 2 9 1 1;call 3 7 1 1;call 4 7 1 1;call 5 9 1 1;";
        checks.due("the fifth counts", Checks.fresh(text).bestGuard(), 5);
        checks.due("the fifth does not", Checks.fresh(text.replace("call 5 9", "call 5 7")).bestGuard(), 2);
        checks.due("the second does not either", Checks.fresh(text.replace("call 5 9", "call 5 7").replace("call 2 9", "call 2 7"))
            .bestGuard(), 1);
        // two lines that call one another spoil each other's calls: less is more, whatever the guard is now
        String spoil = "exchange 2 2;line 1;line 2;call 1 2 1 1;call 2 1 1 1;";
        for (int guard = 1; guard <= 40; guard++) {
            checks.due("guard " + guard, Checks.fresh(spoil + "guard " + guard + ";").bestGuard(), 1);
        }
    }

    /** Those that wait already count against the guard; those that ended well already count for none. */
    private static void guardOfThoseThatWait() {
        StringBuilder text = new StringBuilder("exchange 1 1;work 1;group a 8 0;route 9 1 a;" + Checks.times(10, "line 1%d;"));
        for (int line = 0; line < 9; line++) {
            text.append("call 1").append(line).append(" 9 1 1;");
        }
        ExchangeControl x = Checks.at(1, text + "call 19 9 1 2;");
        checks.due("eight wait", x.state(8), 8);
        checks.due("a ninth comes in if it takes nine", x.bestGuard(), 9);
        ExchangeControl y = Checks.at(40, text + "call 19 9 1 41;");
        checks.due("nine have ended well", y.state(13), 9);
        checks.due("one comes", y.bestGuard(), 1);
    }

    private static void guardFromNow() {
        ExchangeControl x = Checks.fresh("exchange 1 1;work 1;line 1;line 2;line 3;group a 8 0;route 9 1 a;"
            + "call 1 9 1 10;call 2 9 1 10;call 3 9 1 11;");
        // at 11 call 1 waits still, and call 2 comes
        checks.due("two at once, and one a tick later", x.bestGuard(), 2);
        x.hang(1);
        checks.due("one, and one a tick later", x.bestGuard(), 1);
        x.undo();
        x.pass(10);
        checks.due("call 1 waits", x.call(1, 4), 1);
        checks.due("call 2 takes a guard of two", x.bestGuard(), 2);
    }
}
