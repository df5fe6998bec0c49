/** Promises 19 to 23: dial, hang, rule, pass and undo. */
final class ChangeTest {
    private static final Checks checks = new Checks();
    private static final String TWO = "exchange 1 1;line 11;line 12;group a 1 0;route 9 2 a;";

    public static void main(String[] args) {
        dial();
        dialErrors();
        hang();
        hangFrees();
        rule();
        pass();
        undo();
        undoAll();
        undoCounts();
        checks.end();
    }

    private static void dial() {
        ExchangeControl x = Checks.at(4, TWO);
        Checks.put(x, "0123456");
        checks.due("dial", x.dial(1, 6, 99), 0);
        checks.dueThrow("the buffer is empty", IllegalArgumentException.class, () -> x.look(1, 0));
        int[] want = {1, 6, 99, 5, 0, -1, -1, -1, -1, 0, -1};
        for (int what = 0; what <= 10; what++) {
            checks.due("call(0, " + what + ")", x.call(0, what), want[what]);
        }
        checks.due("its first digit", x.digit(0, 0), 0);
        checks.due("its last digit", x.digit(0, 5), 5);
        checks.due("it has not come", x.line(1, 3), 0);
        x.pass(1);
        checks.due("it comes with the next tick", x.call(0, 4), 2);
        checks.due("the next index", Checks.dialled(x, 0, "9", 1), 1);
        long before = x.checksum();
        Checks.put(x, "12 4");
        checks.due("no digit", x.dial(1, 3, 1), -1);
        checks.due("only the buffer is different", x.checksum(), before);
        checks.dueThrow("the buffer is empty again", IllegalArgumentException.class, () -> x.look(1, 0));
        checks.due("it is no change", x.undo(), 4);
    }

    private static void dialErrors() {
        ExchangeControl x = Checks.fresh(TWO);
        checks.dueThrow("no bytes", IllegalArgumentException.class, () -> x.dial(0, 1, 1));
        Checks.put(x, "1");
        checks.dueThrow("line 2", IndexOutOfBoundsException.class, () -> x.dial(2, 0, 0));
        checks.dueThrow("line -1", IndexOutOfBoundsException.class, () -> x.dial(-1, 1, 1));
        checks.dueThrow("length 0", IllegalArgumentException.class, () -> x.dial(0, 0, 1));
        checks.dueThrow("length 7", IllegalArgumentException.class, () -> x.dial(0, 7, 1));
        checks.dueThrow("talk 0", IllegalArgumentException.class, () -> x.dial(0, 1, 0));
        checks.dueThrow("talk 100", IllegalArgumentException.class, () -> x.dial(0, 1, 100));
        checks.due("the buffer is unchanged", x.look(1, 0), -1);
        for (int k = 0; k < 40; k++) {
            Checks.put(x, "1");
            checks.due("call " + k, x.dial(k % 2, 1, 1), k);
        }
        Checks.put(x, "x");
        checks.dueThrow("a 41st call", IllegalStateException.class, () -> x.dial(0, 1, 1));
        checks.dueThrow("a 41st call with no talk", IllegalArgumentException.class, () -> x.dial(0, 1, 0));
        checks.due("the buffer is unchanged then", Checks.put(x, "1"), 40);
        checks.due("40 calls", x.state(5), 40);
    }

    private static void hang() {
        ExchangeControl x = Checks.fresh(TWO + "call 11 12 3 1;call 12 5 1 9;");
        checks.due("before it comes", x.hang(1), 0);
        checks.due("its state", x.call(1, 4), 11);
        checks.due("the time of it", x.call(1, 8), 0);
        x.pass(9);
        checks.due("it never comes", x.call(1, 4), 11);
        checks.dueThrow("ended well", IllegalStateException.class, () -> x.hang(0));
        checks.dueThrow("hung up", IllegalStateException.class, () -> x.hang(1));
        checks.dueThrow("hang(2)", IndexOutOfBoundsException.class, () -> x.hang(2));
        checks.dueThrow("hang(-1)", IndexOutOfBoundsException.class, () -> x.hang(-1));
        checks.due("no changes", x.undo(), 2);
    }

    private static void hangFrees() {
        ExchangeControl x = Checks.at(1, TWO + "line 13;call 11 92 9 1;call 12 93 9 1;call 13 94 9 1;");
        checks.due("one that waits for a register", x.hang(1), 1);
        checks.due("waits no more", x.foremost(false), 2);
        checks.due("one that dials", x.hang(0), 2);
        checks.due("the register is free", x.register(0, 0), -1);
        checks.due("the line is free", x.line(0, 0), 0);
        x.pass(3);
        checks.due("one with a marker", x.hang(2), 4);
        checks.due("the marker is free", x.marker(0, 0), -1);
        checks.due("no ticks left", x.marker(0, 1), 0);
        checks.due("its register is free", x.register(0, 0), -1);
        checks.due("it has none", x.call(2, 10), -1);
        Checks.dialled(x, 0, "99", 50);
        x.pass(5);
        checks.due("a trunk is busy", x.group(0, 2), 1);
        checks.due("one that talks", x.hang(3), 5);
        checks.due("the trunk is free", x.group(0, 2), 0);
        checks.due("no ticks left of the talk", x.call(3, 9), 0);
        checks.due("the group over which it went", x.call(3, 6), 0);
        Checks.dialled(x, 0, "12", 50);
        x.pass(5);
        checks.due("a line is called", x.line(1, 0), 1);
        x.hang(4);
        checks.due("the called line is free", x.line(1, 0), 0);
        checks.due("the line with which it talked", x.call(4, 5), 1);
        ExchangeControl y = Checks.at(3, "exchange 2 1;line 1;line 2;group a 8 0;route 9 1 a;work 9;"
            + "call 1 9 1 1;call 2 9 1 1;");
        checks.due("one that waits for a marker", y.hang(1), 3);
        checks.due("none waits", y.foremost(true), -1);
        checks.due("its register", y.register(1, 0), -1);
    }

    private static void rule() {
        ExchangeControl x = Checks.fresh(TWO);
        int[] before = {40, 5, 2};
        int[] most = {40, 20, 9};
        for (int k = 0; k < 3; k++) {
            int what = 19 + k;
            int over = most[k] + 1;
            checks.due("rule " + what, x.rule(what, 1), before[k]);
            checks.due("rule " + what + " again", x.rule(what, most[k]), 1);
            checks.due("state " + what, x.state(what), most[k]);
            checks.dueThrow("value 0", IllegalArgumentException.class, () -> x.rule(what, 0));
            checks.dueThrow("value " + over, IllegalArgumentException.class, () -> x.rule(what, over));
            checks.dueThrow("value -1", IllegalArgumentException.class, () -> x.rule(what, -1));
        }
        checks.dueThrow("rule 18", IllegalArgumentException.class, () -> x.rule(18, 1));
        checks.dueThrow("rule 22", IllegalArgumentException.class, () -> x.rule(22, 1));
        checks.dueThrow("rule 22 of 0", IllegalArgumentException.class, () -> x.rule(22, 0));
        checks.due("six changes", x.undo(), 6);
    }

    private static void pass() {
        ExchangeControl x = Checks.fresh(TWO + "call 11 12 3 1;call 12 99 3 1;");
        checks.dueThrow("pass(0)", IllegalArgumentException.class, () -> x.pass(0));
        checks.dueThrow("pass(-1)", IllegalArgumentException.class, () -> x.pass(-1));
        checks.dueThrow("pass(301)", IllegalArgumentException.class, () -> x.pass(301));
        checks.due("none ends", x.pass(7), 0);
        checks.due("the first was busy", x.state(14), 1);
        checks.due("one ends", x.pass(300), 1);
        checks.due("the time", x.state(6), 307);
        checks.due("no more", x.pass(1), 0);
    }

    private static void undo() {
        ExchangeControl x = new ExchangeControl();
        long[] before = new long[12];
        for (int k = 0; k < 12; k++) {
            before[k] = x.checksum();
            x.rule(19, 12 - k);
        }
        for (int k = 11; k >= 4; k--) {
            checks.due("undo " + k, x.undo(), k - 4);
            checks.due("as before " + k, x.checksum(), before[k]);
        }
        checks.due("the ninth is final", x.undo(), -1);
        checks.due("nothing changes then", x.checksum(), before[4]);
        x.rule(19, 9);
        x.rule(19, 9);
        checks.due("a change though all data stay", x.undo(), 1);
        x.rule(20, 1);
        checks.due("after an undone one", x.undo(), 1);
        checks.due("the one before", x.undo(), 0);
        checks.due("none", x.undo(), -1);
    }

    private static void undoAll() {
        ExchangeControl x = new ExchangeControl();
        long empty = x.checksum();
        Checks.loaded(x, TWO + "call 11 99 40 1;");
        long loaded = x.checksum();
        x.pass(7);
        long passed = x.checksum();
        Checks.dialled(x, 1, "11", 3);
        long dialled = x.checksum();
        x.pass(4);
        long waits = x.checksum();
        x.hang(0);
        long hung = x.checksum();
        checks.due("a load with an error", Checks.loaded(x, "exchange 1 1;line x;"), ExchangeControl.SYNTAX_ERROR);
        Checks.loaded(x, "exchange 4 3;group z 8 7;");
        Checks.loaded(x, "?");
        Checks.put(x, "11");
        checks.due("undo load", x.undo(), 5);
        checks.due("as hung up", x.checksum(), hung);
        checks.due("the buffer is not affected", x.look(2, 0), 0);
        checks.due("the error offset is not affected", x.errorOffset(), 0);
        checks.due("undo hang", x.undo(), 4);
        checks.due("as it talked", x.checksum(), waits);
        checks.due("undo pass", x.undo(), 3);
        checks.due("as dialled", x.checksum(), dialled);
        x.undo();
        checks.due("as passed", x.checksum(), passed);
        x.undo();
        checks.due("as loaded", x.checksum(), loaded);
        x.pass(7);
        checks.due("it goes the same way again", x.checksum(), passed);
        x.undo();
        checks.due("the last", x.undo(), 0);
        checks.due("as new", x.checksum(), empty);
        checks.dueThrow("no lines", IndexOutOfBoundsException.class, () -> x.line(0, 0));
        checks.due("none", x.undo(), -1);
    }

    private static void undoCounts() {
        ExchangeControl x = Checks.fresh("exchange 3 3;line 1;line 2;line 3;line 4;work 1;group a 1 0;group b 2 1;"
            + "route 9 1 a b;call 1 9 50 1;call 2 9 50 1;call 3 9 50 1;call 4 9 50 1;call 1 9 50 90;");
        long before = x.checksum();
        x.pass(6);
        checks.due("another choice", x.group(1, 5), 1);
        checks.due("overflows", x.group(0, 3) * 10 + x.group(1, 3), 32);
        checks.due("one waited", x.state(24), 1);
        long passed = x.checksum();
        x.undo();
        checks.due("no other choice", x.group(1, 5), 0);
        checks.due("no overflows", x.state(23), 0);
        checks.due("none waited", x.state(24), 0);
        checks.due("nothing has begun", x.group(0, 4) + x.group(0, 6), 0);
        checks.due("none has come", x.line(0, 3), 0);
        checks.due("all as before", x.checksum(), before);
        x.pass(6);
        checks.due("and again", x.checksum(), passed);
        ExchangeControl y = Checks.fresh("exchange 1 1;line 1;line 2;line 3;line 4;call 4 5 1 1;call 3 5 1 1;");
        y.pass(1);
        Checks.dialled(y, 1, "5", 1);
        y.pass(1);
        y.undo();
        Checks.dialled(y, 0, "5", 1);
        y.pass(1);
        checks.due("the order of waiting is as before", y.foremost(false), 1);
        y.hang(1);
        checks.due("the two that came together, by index", y.foremost(false), 2);
    }
}
