import java.util.NoSuchElementException;

/** Promises 5 to 13, 17, 18 and 24: what an exchange tells of itself. */
final class AskTest {
    private static final Checks checks = new Checks();
    /** Call 0 comes at 1, has dialled at 3, finds its way at 5 and has talked at 8. */
    private static final String ONE = "exchange 1 1;line 11;line 12;group a 1 0;group b 2 1;route 9 2 a b;"
        + "call 11 12 3 1;";

    public static void main(String[] args) {
        state();
        line();
        group();
        registerAndMarker();
        call();
        digit();
        look();
        foremost();
        service();
        traffic();
        checksum();
        checks.end();
    }

    private static void state() {
        ExchangeControl x = Checks.fresh("exchange 2 3;line 1;line 2;line 3;group a 1 0;route 9 1 a;guard 6;timeout 7;"
            + "work 8;call 1 2 5 1;call 2 9 5 1;call 3 9 5 1;call 3 9 5 1;call 1 9 5 99;");
        int[] sizes = {2, 3, 3, 1, 1, 5, 0};
        for (int what = 0; what < sizes.length; what++) {
            checks.due("state(" + what + ")", x.state(what), sizes[what]);
        }
        checks.due("calls to come", x.state(7), 5);
        x.pass(1);
        checks.due("the time", x.state(6), 1);
        checks.due("to come", x.state(7), 1);
        checks.due("waits for a register", x.state(8), 1);
        checks.due("dials", x.state(9), 2);
        checks.due("refused", x.state(17), 1);
        checks.due("busy lines", x.state(22), 3);
        checks.due("the longest queue", x.state(24), 1);
        x.pass(1);
        checks.due("a marker works", x.state(11), 2);
        x.pass(8);
        checks.due("the line was busy", x.state(14), 1);
        checks.due("talks", x.state(12), 1);
        x.hang(1);
        checks.due("hung up", x.state(18), 1);
        x.hang(4);
        checks.due("two hung up", x.state(18), 2);
        checks.due("guard", x.state(19), 6);
        checks.due("timeout", x.state(20), 7);
        checks.due("work", x.state(21), 8);
        checks.dueThrow("state(-1)", IllegalArgumentException.class, () -> x.state(-1));
        checks.dueThrow("state(25)", IllegalArgumentException.class, () -> x.state(25));
        ExchangeControl y = Checks.at(20, "exchange 3 3;line 1;line 2;group a 1 0;group b 2 1;route 9 1 a b;"
            + "line 3;line 4;call 1 9 50 1;call 2 9 50 1;call 3 9 50 1;call 4 5 1 1;");
        checks.due("overflows of all groups", y.state(23), 3);
        checks.due("blocked", y.state(15), 1);
        checks.due("given up", y.state(16), 1);
        checks.due("ended well", Checks.at(8, ONE).state(13), 1);
    }

    private static void line() {
        ExchangeControl x = Checks.at(5, "exchange 1 1;line 11;line 12;call 11 12 3 1;call 11 12 3 2;call 11 12 3 99;");
        checks.due("the caller is busy", x.line(0, 0), 1);
        checks.due("the called is busy", x.line(1, 0), 1);
        checks.due("its call", x.line(0, 1), 0);
        checks.due("no call of the called", x.line(1, 1), -1);
        checks.due("no call to the caller", x.line(0, 2), -1);
        checks.due("the call to the called", x.line(1, 2), 0);
        checks.due("calls that came, one refused", x.line(0, 3), 2);
        checks.due("none has ended well", x.line(0, 4), 0);
        x.pass(3);
        checks.due("free again", x.line(0, 0) + x.line(1, 0), 0);
        checks.due("talks no more", x.line(1, 2), -1);
        checks.due("one has ended well", x.line(0, 4), 1);
        checks.due("not one of the called", x.line(1, 4), 0);
        x.hang(2);
        x.pass(100);
        checks.due("a call hung up before never comes", x.line(0, 3), 2);
        checks.dueThrow("line(2, 0)", IndexOutOfBoundsException.class, () -> x.line(2, 0));
        checks.dueThrow("line(-1, 5)", IndexOutOfBoundsException.class, () -> x.line(-1, 5));
        checks.dueThrow("line(0, 5)", IllegalArgumentException.class, () -> x.line(0, 5));
        checks.dueThrow("line(0, -1)", IllegalArgumentException.class, () -> x.line(0, -1));
    }

    private static void group() {
        ExchangeControl x = Checks.fresh("exchange 4 3;line 1;line 2;line 3;line 4;work 1;group a 1 0;group b 3 2;"
            + "route 9 1 a b;call 1 9 3 1;call 2 9 4 1;call 3 9 5 1;call 4 9 2 4;");
        // at 3 the first three look for a way: over a, over b as another choice, and blocked as b holds two back
        x.pass(3);
        int[][] want = {{1, 0, 1, 2, 1, 0, 1}, {3, 2, 1, 1, 1, 1, 1}};
        for (int what = 0; what <= 6; what++) {
            checks.due("group(0, " + what + ")", x.group(0, what), want[0][what]);
            checks.due("group(1, " + what + ")", x.group(1, what), want[1][what]);
        }
        x.pass(3);
        checks.due("at 6 the first has ended", x.group(0, 2), 1);
        checks.due("and the fourth goes over a", x.call(3, 6), 0);
        checks.due("begun over a", x.group(0, 4), 2);
        checks.due("busy trunks of all ticks", x.group(0, 6), 4);
        checks.due("busy trunks of all ticks of b", x.group(1, 6), 4);
        checks.dueThrow("group(2, 0)", IndexOutOfBoundsException.class, () -> x.group(2, 0));
        checks.dueThrow("group(-1, 7)", IndexOutOfBoundsException.class, () -> x.group(-1, 7));
        checks.dueThrow("group(0, 7)", IllegalArgumentException.class, () -> x.group(0, 7));
        checks.dueThrow("group(0, -1)", IllegalArgumentException.class, () -> x.group(0, -1));
    }

    private static void registerAndMarker() {
        ExchangeControl x = Checks.at(2, ONE + "call 12 5 1 4;");
        checks.due("its call", x.register(0, 0), 0);
        checks.due("digits dialled", x.register(0, 1), 1);
        checks.due("has not waited", x.register(0, 2), 0);
        checks.due("the marker is free", x.marker(0, 0), -1);
        checks.due("no ticks left", x.marker(0, 1), 0);
        x.pass(2);
        checks.due("the call of the marker", x.marker(0, 0), 0);
        checks.due("ticks left", x.marker(0, 1), 1);
        checks.due("the register is kept", x.register(0, 1), 2);
        x.pass(2);
        checks.due("the register of the other", x.register(0, 0), 1);
        checks.due("it has waited", x.register(0, 2), 1);
        x.pass(3);
        checks.due("it has waited longer", x.register(0, 2), 4);
        checks.due("there are no more digits", x.register(0, 1), 1);
        x.pass(1);
        checks.due("given up: free", x.register(0, 0), -1);
        checks.due("given up: no digits", x.register(0, 1), 0);
        checks.due("given up: no waiting", x.register(0, 2), 0);
        checks.due("given up", x.call(1, 4), 9);
        checks.dueThrow("register(1, 0)", IndexOutOfBoundsException.class, () -> x.register(1, 0));
        checks.dueThrow("register(-1, 9)", IndexOutOfBoundsException.class, () -> x.register(-1, 9));
        checks.dueThrow("register(0, 3)", IllegalArgumentException.class, () -> x.register(0, 3));
        checks.dueThrow("register(0, -1)", IllegalArgumentException.class, () -> x.register(0, -1));
        checks.dueThrow("marker(1, 0)", IndexOutOfBoundsException.class, () -> x.marker(1, 0));
        checks.dueThrow("marker(-1, 9)", IndexOutOfBoundsException.class, () -> x.marker(-1, 9));
        checks.dueThrow("marker(0, 2)", IllegalArgumentException.class, () -> x.marker(0, 2));
        checks.dueThrow("marker(0, -1)", IllegalArgumentException.class, () -> x.marker(0, -1));
    }

    private static void callIs(String when, ExchangeControl x, int call, int... want) {
        for (int what = 0; what <= 10; what++) {
            checks.due(when + ": call(" + call + ", " + what + ")", x.call(call, what), want[what]);
        }
    }

    private static void call() {
        ExchangeControl x = Checks.fresh(ONE + "call 12 99 7 9;");
        callIs("at 0", x, 0, 0, 2, 3, 1, 0, -1, -1, -1, -1, 0, -1);
        x.pass(1);
        callIs("at 1", x, 0, 0, 2, 3, 1, 2, -1, -1, -1, -1, 0, 0);
        x.pass(2);
        callIs("at 3", x, 0, 0, 2, 3, 1, 4, -1, -1, -1, -1, 0, 0);
        x.pass(2);
        callIs("at 5", x, 0, 0, 2, 3, 1, 5, 1, -1, 5, -1, 3, -1);
        x.pass(3);
        callIs("at 8", x, 0, 0, 2, 3, 1, 6, 1, -1, 5, 8, 0, -1);
        x.pass(6);
        callIs("at 14", x, 1, 1, 2, 7, 9, 5, -1, 0, 13, -1, 6, -1);
        x.hang(1);
        callIs("hung up", x, 1, 1, 2, 7, 9, 11, -1, 0, 13, 14, 0, -1);
        checks.dueThrow("call(2, 0)", IndexOutOfBoundsException.class, () -> x.call(2, 0));
        checks.dueThrow("call(-1, 11)", IndexOutOfBoundsException.class, () -> x.call(-1, 11));
        checks.dueThrow("call(0, 11)", IllegalArgumentException.class, () -> x.call(0, 11));
        checks.dueThrow("call(0, -1)", IllegalArgumentException.class, () -> x.call(0, -1));
    }

    private static void digit() {
        ExchangeControl x = Checks.fresh("exchange 1 1;line 1;call 1 012345 1 1;call 1 9 1 1;");
        for (int k = 0; k < 6; k++) {
            checks.due("digit(0, " + k + ")", x.digit(0, k), k);
        }
        checks.due("digit(1, 0)", x.digit(1, 0), 9);
        checks.dueThrow("digit(0, 6)", NoSuchElementException.class, () -> x.digit(0, 6));
        checks.dueThrow("digit(0, -1)", NoSuchElementException.class, () -> x.digit(0, -1));
        checks.dueThrow("digit(1, 1)", NoSuchElementException.class, () -> x.digit(1, 1));
        checks.dueThrow("digit(2, 9)", IndexOutOfBoundsException.class, () -> x.digit(2, 9));
        checks.dueThrow("digit(-1, 0)", IndexOutOfBoundsException.class, () -> x.digit(-1, 0));
    }

    private static void looked(ExchangeControl x, String digits, int line, int route, int complete, int group) {
        Checks.put(x, digits);
        int[] want = {line, route, complete, group};
        for (int what = 0; what <= 3; what++) {
            checks.due("look at " + digits + " for " + what, x.look(digits.length(), what), want[what]);
        }
        x.load(0);
    }

    private static void look() {
        ExchangeControl x = Checks.fresh("exchange 1 1;line 12;line 90;line 0;group a 1 0;group b 2 1;group c 2 0;"
            + "route 9 2 a b;route 91 3 b c;route 9100 5 c;call 12 98 9 1;");
        looked(Checks.fresh("exchange 1 1;group a 1 0;route 0 2 a;"), "0", -1, 0, 0, -1);
        looked(x, "12", 0, -1, 1, -1);
        looked(x, "1", -1, -1, 0, -1);
        looked(x, "012", -1, -1, 0, -1);
        looked(x, "0", 2, -1, 1, -1);
        looked(x, "9", -1, 0, 0, -1);
        looked(x, "92", -1, 0, 1, 0);
        looked(x, "90", 1, 0, 1, -1);
        looked(x, "91", -1, 1, 0, -1);
        looked(x, "910", -1, 1, 1, 1);
        looked(x, "9100", -1, 2, 0, -1);
        looked(x, "91009", -1, 2, 1, 2);
        looked(x, "910099", -1, 2, 0, -1);
        x.pass(5);
        checks.due("a's trunk is busy", x.group(0, 2), 1);
        looked(x, "92", -1, 0, 1, 1);
        Checks.put(x, "12a");
        checks.due("the buffer stays", x.look(2, 0) + x.look(2, 0), 0);
        checks.dueThrow("no digit", IllegalArgumentException.class, () -> x.look(3, 0));
        checks.dueThrow("look(0, 0)", IllegalArgumentException.class, () -> x.look(0, 0));
        checks.dueThrow("look(7, 0)", IllegalArgumentException.class, () -> x.look(7, 0));
        checks.dueThrow("look(2, -1)", IllegalArgumentException.class, () -> x.look(2, -1));
        checks.dueThrow("look(2, 4)", IllegalArgumentException.class, () -> x.look(2, 4));
        x.load(0);
        checks.dueThrow("an empty buffer", IllegalArgumentException.class, () -> x.look(1, 0));
    }

    private static void foremost() {
        ExchangeControl x = Checks.fresh("exchange 2 1;work 5;line 1;line 2;line 3;line 4;call 4 1 1 2;call 1 1 1 1;"
            + "call 2 1 1 1;call 3 1 1 1;");
        checks.due("none waits for a register", x.foremost(false), -1);
        checks.due("none waits for a marker", x.foremost(true), -1);
        x.pass(1);
        checks.due("the third of the first", x.foremost(false), 3);
        x.pass(1);
        checks.due("still, before the lower index that came later", x.foremost(false), 3);
        checks.due("the second for the marker", x.foremost(true), 2);
        x.hang(3);
        checks.due("the next one", x.foremost(false), 0);
        x.hang(2);
        checks.due("none for a marker", x.foremost(true), -1);
    }

    private static void service() {
        checks.dueFloat("no calls", new ExchangeControl().service(), 1);
        checks.dueFloat("one that ended well", Checks.at(8, ONE).service(), 1);
        checks.dueFloat("one that talks", Checks.at(7, ONE).service(), 1);
        ExchangeControl x = Checks.at(8, ONE + "call 11 1 1 2;call 11 1 1 3;call 12 1 1 99;");
        checks.dueFloat("one of three", x.service(), 1f / 3f);
        x.hang(3);
        checks.dueFloat("one hung up is of no account", x.service(), 1f / 3f);
        ExchangeControl y = Checks.at(30, "exchange 4 3;work 1;line 1;line 2;line 3;line 4;group a 1 0;route 9 1 a;"
            + "call 1 9 1 1;call 1 9 1 2;call 2 2 1 10;call 3 9 40 15;call 4 9 1 15;call 2 5 1 15;");
        checks.due("busy", y.state(14), 1);
        checks.due("blocked", y.state(15), 1);
        checks.due("given up", y.state(16), 1);
        checks.due("refused", y.state(17), 1);
        checks.dueFloat("one of five, and one talks", y.service(), 1f / 5f);
        checks.dueFloat("none of one", Checks.at(9, "exchange 1 1;line 1;call 1 2 1 1;").service(), 0);
    }

    private static void traffic() {
        ExchangeControl x = Checks.fresh("exchange 1 1;line 1;group a 3 0;group b 2 0;route 9 1 a;call 1 9 9 1;");
        checks.dueFloat("at 0", x.traffic(0), 0);
        x.pass(7);
        checks.due("busy from 4 on", x.group(0, 6), 4);
        checks.dueFloat("at 7", x.traffic(0), 4f / 21f);
        checks.dueFloat("not used", x.traffic(1), 0);
        checks.dueThrow("traffic(2)", IndexOutOfBoundsException.class, () -> x.traffic(2));
        checks.dueThrow("traffic(-1)", IndexOutOfBoundsException.class, () -> x.traffic(-1));
    }

    private static void checksum() {
        ExchangeControl x = Checks.at(6, ONE + "call 12 92 3 2;call 12 92 3 12;");
        long sum = 0;
        for (int what = 0; what <= 24; what++) {
            sum = 31 * sum + x.state(what);
        }
        for (int k = 0; k < 2 * 5; k++) {
            sum = 31 * sum + x.line(k / 5, k % 5);
        }
        for (int k = 0; k < 2 * 7; k++) {
            sum = 31 * sum + x.group(k / 7, k % 7);
        }
        for (int k = 0; k < 3; k++) {
            sum = 31 * sum + x.register(0, k);
        }
        for (int k = 0; k < 2; k++) {
            sum = 31 * sum + x.marker(0, k);
        }
        for (int k = 0; k < 3 * 11; k++) {
            sum = 31 * sum + x.call(k / 11, k % 11);
        }
        checks.due("checksum", x.checksum(), sum);
    }
}
