import java.math.BigInteger;
import java.util.ArrayList;
import java.util.List;
import java.util.NoSuchElementException;

/** The bounds of what an exchange tells of itself: promises 5 to 13, 17, 18 and 24. */
final class AskBoundsTest {
    private static final Checks checks = new Checks();
    private static final int[] FAR = {Integer.MIN_VALUE, Integer.MIN_VALUE + 1, -1000, -1, 1000, Integer.MAX_VALUE - 1,
        Integer.MAX_VALUE};

    public static void main(String[] args) {
        newObject();
        everyState();
        states();
        lines();
        groupsRegistersMarkers();
        callsAndDigits();
        fullHouse();
        refusedAsks();
        look();
        lookRefused();
        lookForGroup();
        foremost();
        service();
        traffic();
        checksum();
        asksAreNoChanges();
        checks.end();
    }

    /** A new object, one that has loaded exchange 1 1;, and one that has failed to load are the same. */
    private static void newObject() {
        checks.alike("as by exchange 1 1;", undone(Checks.fresh("exchange 1 1;")), new ExchangeControl());
        ExchangeControl x = new ExchangeControl();
        int[] want = {1, 1, 0, 0, 0, 0, 0, 0, 0, 0, 0, 0, 0, 0, 0, 0, 0, 0, 0, 40, 5, 2, 0, 0, 0};
        for (int what = 0; what <= 24; what++) {
            checks.due("new: state(" + what + ")", x.state(what), want[what]);
        }
        checks.due("register(0, 0)", x.register(0, 0), -1);
        checks.due("register(0, 1)", x.register(0, 1), 0);
        checks.due("register(0, 2)", x.register(0, 2), 0);
        checks.due("marker(0, 0)", x.marker(0, 0), -1);
        checks.due("marker(0, 1)", x.marker(0, 1), 0);
        checks.due("pass", x.pass(300), 0);
        checks.due("time passes without a load", x.state(6), 300);
        checks.due("a rule without a load", x.rule(21, 9), 2);
        checks.due("two changes", x.undo(), 1);
    }

    private static ExchangeControl undone(ExchangeControl x) {
        x.undo();
        return x;
    }

    private static void everyState() {
        ExchangeControl x = EveryState.made();
        int[] want = {3, 1, 5, 1, 1, 12, 22, 1, 1, 1, 1, 1, 1, 1, 1, 1, 1, 1, 1, 40, 1, 2, 5, 1, 1};
        for (int what = 0; what <= 24; what++) {
            checks.due("every state: state(" + what + ")", x.state(what), want[what]);
        }
        for (int call = 0; call < 12; call++) {
            for (int what = 0; what <= 10; what++) {
                checks.due("every state: call(" + call + ", " + what + ")", x.call(call, what), EveryState.CALLS[call][what]);
            }
        }
        for (int state = 0; state <= 11; state++) {
            checks.due("the call in state " + state, x.call(EveryState.CALL_IN[state], 4), state);
            boolean has = x.call(EveryState.CALL_IN[state], 10) >= 0;
            checks.due("in the states 2 to 4 it has its register", has ? 1 : 0, state >= 2 && state <= 4 ? 1 : 0);
        }
        int[][] lines = {{1, 0, -1, 1, 0}, {1, 7, -1, 3, 0}, {1, 8, -1, 3, 0}, {1, 9, -1, 2, 1}, {1, 10, -1, 1, 0}};
        for (int line = 0; line < 5; line++) {
            for (int what = 0; what <= 4; what++) {
                checks.due("every state: line(" + line + ", " + what + ")", x.line(line, what), lines[line][what]);
            }
        }
        int[] group = {1, 0, 1, 1, 1, 0, 19};
        for (int what = 0; what <= 6; what++) {
            checks.due("every state: group(0, " + what + ")", x.group(0, what), group[what]);
        }
        int[][] registers = {{7, 1, 0}, {8, 1, 0}, {9, 1, 0}};
        for (int k = 0; k < 9; k++) {
            checks.due("every state: register " + k, x.register(k / 3, k % 3), registers[k / 3][k % 3]);
        }
        checks.due("every state: marker(0, 0)", x.marker(0, 0), 7);
        checks.due("every state: marker(0, 1)", x.marker(0, 1), 1);
        checks.due("every state: waits for a register", x.foremost(false), 10);
        checks.due("every state: waits for a marker", x.foremost(true), 8);
        checks.dueFloat("every state: service", x.service(), 1f / 5f);
        checks.dueFloat("every state: traffic", x.traffic(0), 19f / 22f);
    }

    /** A call in each state counts in no other one. */
    private static void states() {
        for (int state = 0; state <= 5; state++) {
            ExchangeControl x = EveryState.made();
            x.hang(EveryState.CALL_IN[state]);
            for (int what = 0; what <= 11; what++) {
                checks.due("state(" + (7 + what) + ") as the one in " + state + " is hung up", x.state(7 + what),
                    what == state ? 0 : what == 11 ? 2 : 1);
            }
            checks.due("busy lines then", x.state(22), state == 0 ? 5 : 4);
        }
    }

    /** When its call is in each of the states, a line is busy in 1 to 5 alone; so is a called one in 5 alone. */
    private static void lines() {
        String text = "exchange 1 1;work 2;line 1;line 2;line 3;call 3 5 1 1;call 1 2 2 5;";
        // call 0 has the register from 1 to 6, so call 1 waits from 5 to 6, dials to 7, has its marker to 9, talks to 11
        int[] states = {0, 0, 0, 0, 0, 1, 2, 4, 4, 5, 5, 6, 6};
        ExchangeControl x = Checks.fresh(text);
        for (int time = 0; time < states.length; time++) {
            int state = states[time];
            boolean busy = state >= 1 && state <= 5;
            checks.due("state at " + time, x.call(1, 4), state);
            checks.due("the caller is busy at " + time, x.line(0, 0), busy ? 1 : 0);
            checks.due("its call at " + time, x.line(0, 1), busy ? 1 : -1);
            checks.due("no call to it at " + time, x.line(0, 2), -1);
            checks.due("the called is busy at " + time, x.line(1, 0), state == 5 ? 1 : 0);
            checks.due("no call from it at " + time, x.line(1, 1), -1);
            checks.due("the call to it at " + time, x.line(1, 2), state == 5 ? 1 : -1);
            checks.due("came at " + time, x.line(0, 3), state == 0 ? 0 : 1);
            checks.due("ended well at " + time, x.line(0, 4), state == 6 ? 1 : 0);
            checks.due("none of the called came or ended at " + time, x.line(1, 3) + x.line(1, 4), 0);
            boolean other = time >= 1 && time < 6;
            checks.due("busy lines at " + time, x.state(22), (busy ? 1 : 0) + (state == 5 ? 1 : 0) + (other ? 1 : 0));
            x.pass(1);
        }
        for (int state = 7; state <= 11; state++) {
            ExchangeControl y = EveryState.made();
            int call = EveryState.CALL_IN[state];
            int line = y.call(call, 0);
            checks.due("the line's call is another than the one in " + state, y.line(line, 1) == call ? 1 : 0, 0);
        }
    }

    private static void groupsRegistersMarkers() {
        String text = "exchange 2 1;line 1;line 2;group a 2 0;route 9 1 a;work 2;timeout 3;call 1 9 2 2;call 2 555555 1 3;";
        // call 0: register 0 from 2, digit at 3, marker to 5, talks to 7; call 1: register 1 from 3, its digits at 4 to 9,
        // it waits at 9, 10 and 11 and is given up then
        ExchangeControl x = Checks.fresh(text);
        int[] busy = {0, 0, 0, 0, 0, 1, 1, 0, 0, 0, 0, 0};
        int[] sum = {0, 0, 0, 0, 0, 1, 2, 2, 2, 2, 2, 2};
        int[] first = {-1, -1, 0, 0, 0, -1, -1, -1, -1, -1, -1, -1};
        int[] firstDigits = {0, 0, 0, 1, 1, 0, 0, 0, 0, 0, 0, 0};
        int[] second = {-1, -1, -1, 1, 1, 1, 1, 1, 1, 1, 1, -1};
        int[] secondDigits = {0, 0, 0, 0, 1, 2, 3, 4, 5, 6, 6, 0};
        int[] waited = {0, 0, 0, 0, 0, 0, 0, 0, 0, 1, 2, 0};
        int[] marker = {-1, -1, -1, 0, 0, -1, -1, -1, -1, -1, -1, -1};
        int[] left = {0, 0, 0, 2, 1, 0, 0, 0, 0, 0, 0, 0};
        int[] talk = {0, 0, 0, 0, 0, 2, 1, 0, 0, 0, 0, 0};
        for (int time = 0; time <= 11; time++) {
            checks.due("busy trunks at " + time, x.group(0, 2), busy[time]);
            checks.due("begun at " + time, x.group(0, 4), time >= 5 ? 1 : 0);
            checks.due("busy trunks of all ticks at " + time, x.group(0, 6), sum[time]);
            checks.due("register 0 at " + time, x.register(0, 0), first[time]);
            checks.due("its digits at " + time, x.register(0, 1), firstDigits[time]);
            checks.due("it has not waited at " + time, x.register(0, 2), 0);
            checks.due("register 1 at " + time, x.register(1, 0), second[time]);
            checks.due("its digits at " + time, x.register(1, 1), secondDigits[time]);
            checks.due("it has waited at " + time, x.register(1, 2), waited[time]);
            checks.due("the marker at " + time, x.marker(0, 0), marker[time]);
            checks.due("its ticks at " + time, x.marker(0, 1), left[time]);
            checks.due("ticks of the talk at " + time, x.call(0, 9), talk[time]);
            checks.due("the group at " + time, x.call(0, 6), time >= 5 ? 0 : -1);
            checks.due("it began at " + time, x.call(0, 7), time >= 5 ? 5 : -1);
            checks.due("it was over at " + time, x.call(0, 8), time >= 7 ? 7 : -1);
            checks.due("given up at " + time, x.call(1, 8), time >= 11 ? 11 : -1);
            x.pass(1);
        }
    }

    private static void callsAndDigits() {
        ExchangeControl x = Checks.fresh("exchange 1 1;line 1;call 1 0 1 1;call 1 01 99 999;call 1 012 2 2;call 1 0123 3 3;"
            + "call 1 01234 4 4;call 1 543210 98 998;");
        for (int call = 0; call < 6; call++) {
            int digits = call + 1;
            int asked = call;
            checks.due("how many digits", x.call(call, 1), digits);
            for (int k = 0; k < digits; k++) {
                checks.due("digit(" + call + ", " + k + ")", x.digit(call, k), call == 5 ? 5 - k : k);
            }
            for (int k : new int[] {digits, digits + 1, 6, 7, -1, Integer.MIN_VALUE, Integer.MAX_VALUE}) {
                checks.dueThrow("digit(" + call + ", " + k + ")", NoSuchElementException.class,
                    () -> x.digit(asked, k));
            }
        }
        checks.due("talks longest", x.call(1, 2), 99);
        checks.due("comes latest", x.call(1, 3), 999);
        for (int k : new int[] {0, 6, -1}) {
            for (int call : outside(12)) {
                checks.refused("digit(" + call + ", " + k + ")", IndexOutOfBoundsException.class, EveryState::made,
                    y -> y.digit(call, k));
            }
            checks.refused("digit(0, " + k + ") of no calls", IndexOutOfBoundsException.class, ExchangeControl::new,
                y -> y.digit(0, k));
        }
        checks.refused("digit(9, 2) of two", NoSuchElementException.class, EveryState::made, y -> y.digit(9, 2));
        ExchangeControl full = FullHouse.made();
        checks.due("the digit of the last of 40", full.digit(39, 0), 8);
        checks.dueThrow("no call 40", IndexOutOfBoundsException.class, () -> full.digit(40, 0));
    }

    /** The first and the last of each thing, when there are as many as there may be. */
    private static void fullHouse() {
        ExchangeControl x = FullHouse.made();
        int[] sizes = {4, 3, 12, 5, 8, 40, 0, 40};
        for (int what = 0; what < sizes.length; what++) {
            checks.due("full house: state(" + what + ")", x.state(what), sizes[what]);
        }
        int[] trunks = {1, 8, 8, 2, 3};
        int[] held = {0, 7, 0, 1, 2};
        for (int group = 0; group < 5; group++) {
            checks.due("trunks of " + group, x.group(group, 0), trunks[group]);
            checks.due("held by " + group, x.group(group, 1), held[group]);
        }
        for (int line = 0; line < 12; line++) {
            checks.due("line " + line + " has no call", x.line(line, 1), -1);
        }
        for (int register = 0; register < 4; register++) {
            checks.due("register " + register + " is free", x.register(register, 0), -1);
        }
        for (int marker = 0; marker < 3; marker++) {
            checks.due("marker " + marker + " is free", x.marker(marker, 0), -1);
        }
        for (int call = 0; call < 40; call++) {
            checks.due("the line of call " + call, x.call(call, 0), call < 38 ? 0 : 11);
        }
        String[] lines = {"0", "1", "2", "3", "4", "5", "6", "7", "8", "9", "00", "01"};
        for (int line = 0; line < 12; line++) {
            Checks.put(x, lines[line]);
            checks.due("the line of " + lines[line], x.look(lines[line].length(), 0), line);
            checks.due("the route of " + lines[line], x.look(1, 1), line < 8 ? line : line < 10 ? -1 : 0);
            x.load(0);
        }
        x.pass(1);
        checks.due("all have come", x.state(7), 0);
        checks.due("36 of 38, and one of 2, are refused", x.state(17), 38);
        checks.due("busy lines", x.state(22), 2);
        checks.due("the last line came twice", x.line(11, 3), 2);
        checks.due("the first line 38 times", x.line(0, 3), 38);
    }

    private static int[] outside(int count) {
        int[] outside = new int[FAR.length + 2];
        System.arraycopy(FAR, 0, outside, 0, FAR.length);
        outside[FAR.length] = count;
        outside[FAR.length + 1] = count + 1;
        return outside;
    }

    interface Asked {
        void of(ExchangeControl x, int index, int what);
    }

    private static Asked[] asks() {
        return new Asked[] {(x, k, what) -> x.line(k, what), (x, k, what) -> x.group(k, what),
            (x, k, what) -> x.register(k, what), (x, k, what) -> x.marker(k, what), (x, k, what) -> x.call(k, what)};
    }

    /** Refused are: an index that is none, whatever is asked; what is not to be asked, of the first and the last. */
    private static void refusedAsks() {
        String[] names = {"line", "group", "register", "marker", "call"};
        int[] last = {4, 6, 2, 1, 10};
        Checks.Maker[] makers = {FullHouse::made, EveryState::made, ExchangeControl::new};
        int[][] counts = {{12, 5, 4, 3, 40}, {5, 1, 3, 1, 12}, {0, 0, 1, 1, 0}};
        for (int m = 0; m < makers.length; m++) {
            ExchangeControl x = makers[m].made();
            long before = x.checksum();
            for (int name = 0; name < names.length; name++) {
                refusedAsks(x, names[name], asks()[name], counts[m][name], last[name]);
            }
            for (int what : outside(25)) {
                checks.dueThrow("state(" + what + ")", IllegalArgumentException.class, () -> x.state(what));
            }
            checks.due("asked", x.checksum(), before);
            checks.alike("asked what is refused", x, makers[m].made());
        }
    }

    private static void refusedAsks(ExchangeControl x, String name, Asked asked, int count, int last) {
        for (int index : outside(count)) {
            for (int what : new int[] {0, last, last + 1, -1, Integer.MAX_VALUE}) {
                checks.dueThrow(name + "(" + index + ", " + what + ")", IndexOutOfBoundsException.class,
                    () -> asked.of(x, index, what));
            }
        }
        for (int index = 0; index < count; index++) {
            for (int what : outside(last + 1)) {
                int one = index;
                checks.dueThrow(name + "(" + index + ", " + what + ")", IllegalArgumentException.class,
                    () -> asked.of(x, one, what));
            }
            for (int what = 0; what <= last; what++) {
                asked.of(x, index, what);
            }
        }
    }

    private static int looked(ExchangeControl x, String digits, int what) {
        Checks.put(x, digits);
        int answer = x.look(digits.length(), what);
        x.load(0);
        return answer;
    }

    private static void looks(ExchangeControl x, String digits, int line, int route, int complete, int group) {
        int[] want = {line, route, complete, group};
        for (int what = 0; what <= 3; what++) {
            checks.due("look at " + digits + " for " + what, looked(x, digits, what), want[what]);
        }
    }

    /** A row is looked at for each of the lengths, against prefixes of each length. */
    private static void look() {
        ExchangeControl x = Checks.fresh("exchange 1 1;line 123456;line 7;line 54321;group a 1 0;group b 1 0;"
            + "route 00000 6 b;route 0 3 a;route 00 5 b;route 9 1 a;route 54321 6 a;route 1 6 b;");
        looks(x, "0", -1, 1, 0, -1);
        looks(x, "00", -1, 2, 0, -1);
        looks(x, "01", -1, 1, 0, -1);
        looks(x, "012", -1, 1, 1, 0);
        looks(x, "0123", -1, 1, 0, -1);
        looks(x, "000", -1, 2, 0, -1);
        looks(x, "0000", -1, 2, 0, -1);
        looks(x, "00001", -1, 2, 1, 1);
        looks(x, "00000", -1, 0, 0, -1);
        looks(x, "000001", -1, 0, 1, 1);
        looks(x, "000011", -1, 2, 0, -1);
        looks(x, "9", -1, 3, 1, 0);
        looks(x, "99", -1, 3, 0, -1);
        looks(x, "8", -1, -1, 0, -1);
        looks(x, "888888", -1, -1, 0, -1);
        looks(x, "7", 1, -1, 1, -1);
        looks(x, "07", -1, 1, 0, -1);
        looks(x, "77", -1, -1, 0, -1);
        looks(x, "12345", -1, 5, 0, -1);
        looks(x, "123456", 0, 5, 1, -1);
        looks(x, "123457", -1, 5, 1, 1);
        looks(x, "54321", 2, 4, 1, -1);
        looks(x, "5432", -1, -1, 0, -1);
        looks(x, "543210", -1, 4, 1, 0);
        ExchangeControl none = new ExchangeControl();
        looks(none, "0", -1, -1, 0, -1);
        looks(none, "999999", -1, -1, 0, -1);
    }

    private static void lookRefused() {
        Checks.Maker digits = () -> EveryState.with("12345678901234567890");
        for (int what = 0; what <= 3; what++) {
            int asked = what;
            for (int length : new int[] {0, 7, 20, 21, -1, Integer.MIN_VALUE, Integer.MAX_VALUE}) {
                checks.refused("look(" + length + ", " + what + ")", IllegalArgumentException.class, digits,
                    x -> x.look(length, asked));
            }
            for (int length = 1; length <= 6; length++) {
                int one = length;
                checks.refused("look(" + length + ") at nothing", IllegalArgumentException.class, EveryState::made,
                    x -> x.look(one, asked));
            }
        }
        for (int what : outside(4)) {
            checks.refused("look(1, " + what + ")", IllegalArgumentException.class, digits, x -> x.look(1, what));
            checks.refused("look(6, " + what + ")", IllegalArgumentException.class, digits, x -> x.look(6, what));
        }
        // a byte that is no digit is refused at any place within the length, and of no account behind it
        for (int at = 0; at < 6; at++) {
            for (char sign : new char[] {'/', ':', ' ', 0, 'a', (char) 176, (char) 185, (char) 255}) {
                ExchangeControl x = EveryState.with("999999".substring(0, at) + sign + "99999");
                for (int length = 1; length <= 6; length++) {
                    int one = length;
                    if (length <= at) {
                        checks.due("look(" + length + ") before byte " + (int) sign, x.look(one, 1), 0);
                    } else {
                        checks.dueThrow("look(" + length + ") over byte " + (int) sign, IllegalArgumentException.class,
                            () -> x.look(one, 1));
                    }
                }
            }
        }
        ExchangeControl x = digits.made();
        for (int length = 1; length <= 6; length++) {
            for (int what = 0; what <= 3; what++) {
                x.look(length, what);
            }
        }
        checks.alike("looked at", x, digits.made());
    }

    /** The group for a row, from trunks that are free to none, and never for a line's number or what is not complete. */
    private static void lookForGroup() {
        ExchangeControl x = Checks.fresh("exchange 4 3;work 1;line 1;line 2;line 3;line 4;line 95;group a 1 0;group b 2 1;"
            + "group c 1 0;route 9 2 a b c;route 8 1 c;route 7 1 b;");
        int[] want = {0, 1, 2, -1, -1};
        for (int line = 0; line <= 4; line++) {
            checks.due("the group with " + line + " that talk", looked(x, "90", 3), want[line]);
            checks.due("complete all the same", looked(x, "90", 2), 1);
            checks.due("the number of a line", looked(x, "95", 3), -1);
            checks.due("not complete", looked(x, "9", 3), -1);
            checks.due("too long", looked(x, "900", 3), -1);
            checks.due("c as a first choice", looked(x, "8", 3), line <= 2 ? 2 : -1);
            checks.due("what b holds back is free for a first choice", looked(x, "7", 3), line == 4 ? -1 : 1);
            if (line < 4) {
                Checks.dialled(x, line, line < 3 ? "90" : "7", 99);
                x.pass(4);
                checks.due("it talks", x.call(line, 4), 5);
            }
        }
        checks.due("to look is no overflow", x.state(23), 3);
        x.hang(0);
        checks.due("a trunk that is free again", looked(x, "90", 3), 0);
    }

    private static void foremost() {
        ExchangeControl x = Checks.fresh("exchange 1 1;timeout 1;work 9;line 1;line 2;line 3;group a 8 0;route 9 1 a;"
            + "call 3 9 1 1;call 2 9 1 2;call 1 9 1 1;");
        checks.due("none has come", x.foremost(false), -1);
        x.pass(1);
        checks.due("call 0 has the register", x.foremost(false), 2);
        x.pass(1);
        checks.due("call 1 came behind call 2", x.foremost(false), 2);
        checks.due("call 0 has the marker at once", x.foremost(true), -1);
        x.hang(2);
        checks.due("then call 1", x.foremost(false), 1);
        x.hang(1);
        checks.due("then none", x.foremost(false), -1);
        ExchangeControl y = Checks.at(2, "exchange 4 1;work 9;line 1;line 2;line 3;line 4;group a 8 0;route 9 1 a;"
            + "call 1 9 1 1;call 4 9 1 1;call 3 9 1 1;call 2 9 1 1;");
        for (int call = 1; call <= 3; call++) {
            checks.due("waits for a marker", y.foremost(true), call);
            checks.due("none for a register", y.foremost(false), -1);
            y.hang(call);
        }
        checks.due("none waits for a marker", y.foremost(true), -1);
    }

    /** Only the states 6 to 10 are of account: with each one of the calls alone. */
    private static void service() {
        checks.dueFloat("no call", new ExchangeControl().service(), 1);
        ExchangeControl x = EveryState.made();
        for (int state = 0; state <= 5; state++) {
            x.hang(EveryState.CALL_IN[state]);
            checks.dueFloat("hung up in " + state, x.service(), 1f / 5f);
        }
        // beside one that ended well, one, two and three that came to the same other end
        String setup = "exchange 4 3;timeout 1;work 1;line 1;line 2;line 3;group a 1 0;route 9 1 a;call 1 2 1 1;";
        String[] ends = {"call 3 3 1 T;", "call 3 9 1 T;", "call 3 5 1 T;", "call 1 5 1 2;", "call 3 5 1 T;"};
        int[] states = {7, 8, 9, 10, 11};
        for (int end = 0; end < ends.length; end++) {
            StringBuilder text = new StringBuilder(setup + "call 2 9 99 11;");
            for (int count = 1; count <= 3; count++) {
                text.append(ends[end].replace("T", "" + (20 + 10 * count)));
                ExchangeControl y = Checks.fresh(text.toString());
                for (int call = 2; states[end] == 11 && call < 2 + count; call++) {
                    y.hang(call);
                }
                y.pass(60);
                checks.due("in state " + states[end], y.state(7 + states[end]), count);
                checks.due("one talks, one ended well", y.state(12) * 10 + y.state(13), 11);
                checks.dueFloat(count + " in state " + states[end], y.service(), states[end] == 11 ? 1 : 1f / (1f + count));
            }
        }
        // each of 12 lines calls a line that is free or busy, one at a time
        for (int well = 0; well <= 12; well++) {
            StringBuilder text = new StringBuilder("exchange 4 3;line 00;" + Checks.times(12, "line %d;").replace("line 11;", ""));
            for (int call = 0; call < 12; call++) {
                text.append("call 1 ").append(call < well ? "2" : "1").append(" 1 ").append(1 + 9 * call).append(';');
            }
            ExchangeControl y = Checks.at(200, text.toString());
            checks.due("ended well", y.state(13), well);
            checks.dueFloat(well + " of 12 calls", y.service(), (float) well / 12f);
        }
    }

    private static void traffic() {
        ExchangeControl x = Checks.fresh("exchange 1 1;work 1;line 1;group a 1 0;group b 7 0;route 9 1 a;route 8 1 b;"
            + "call 1 9 99 1;call 1 8 50 101;");
        checks.dueFloat("at 0", x.traffic(0), 0);
        checks.dueFloat("b at 0", x.traffic(1), 0);
        for (int time = 1; time <= 160; time++) {
            x.pass(1);
            // over a from 3 to 102, so call 1 is refused at 101
            int busy = Math.min(Math.max(time - 2, 0), 99);
            checks.due("busy ticks at " + time, x.group(0, 6), busy);
            checks.dueFloat("at " + time, x.traffic(0), (float) busy / (float) time);
            checks.dueFloat("b at " + time, x.traffic(1), 0);
        }
        Checks.dialled(x, 0, "8", 50);
        x.pass(60);
        checks.due("over b", x.group(1, 6), 50);
        checks.dueFloat("b at 220", x.traffic(1), 50f / 1540f);
        for (int k = 0; k < 20; k++) {
            x.pass(300);
        }
        checks.dueFloat("a at 6220", x.traffic(0), 99f / 6220f);
        checks.dueFloat("b at 6220", x.traffic(1), 50f / 43540f);
        for (int index : outside(2)) {
            checks.refused("traffic(" + index + ")", IndexOutOfBoundsException.class, EveryState::made, y -> y.traffic(index));
        }
        checks.dueThrow("no group at 0", IndexOutOfBoundsException.class, () -> new ExchangeControl().traffic(0));
        Checks.loaded(x, "exchange 1 1;group a 8 0;");
        checks.dueFloat("at 0 again", x.traffic(0), 0);
        checks.dueThrow("no second group", IndexOutOfBoundsException.class, () -> x.traffic(1));
    }

    private static List<Integer> numbersOf(ExchangeControl x) {
        List<Integer> numbers = new ArrayList<>();
        for (int what = 0; what <= 24; what++) {
            numbers.add(x.state(what));
        }
        int[] counts = {x.state(2), x.state(3), x.state(0), x.state(1), x.state(5)};
        int[] last = {4, 6, 2, 1, 10};
        for (int thing = 0; thing < 5; thing++) {
            for (int index = 0; index < counts[thing]; index++) {
                for (int what = 0; what <= last[thing]; what++) {
                    numbers.add(answer(x, thing, index, what));
                }
            }
        }
        return numbers;
    }

    private static int answer(ExchangeControl x, int thing, int index, int what) {
        switch (thing) {
            case 0: return x.line(index, what);
            case 1: return x.group(index, what);
            case 2: return x.register(index, what);
            case 3: return x.marker(index, what);
            default: return x.call(index, what);
        }
    }

    /** The checksum is the one of unbounded numbers, cut to the 64 bits of a long, and so negative now and then. */
    private static void checksum() {
        int negative = 0;
        Checks.Maker[] makers = {ExchangeControl::new, EveryState::made, FullHouse::made,
            () -> Checks.fresh("exchange 2 1;"), () -> Checks.fresh("exchange 1 2;line 1;"),
            () -> Checks.fresh("exchange 1 1;group a 1 0;"), () -> Checks.fresh("exchange 1 1;line 1;call 1 1 1 1;")};
        for (Checks.Maker maker : makers) {
            ExchangeControl x = maker.made();
            for (int ticks = 0; ticks < 30; ticks++) {
                BigInteger sum = BigInteger.ZERO;
                for (int n : numbersOf(x)) {
                    sum = sum.multiply(BigInteger.valueOf(31)).add(BigInteger.valueOf(n));
                }
                checks.due("it is more than a long holds", sum.bitLength() > 64 ? 1 : 0, 1);
                checks.due("checksum", x.checksum(), sum.longValue());
                negative += x.checksum() < 0 ? 1 : 0;
                x.pass(1);
            }
        }
        checks.due("some are negative, some not", negative > 0 && negative < 30 * makers.length ? 1 : 0, 1);
    }

    private static void asksAreNoChanges() {
        ExchangeControl x = EveryState.with("exchange 1 1;line 1;");
        for (int times = 0; times < 9; times++) {
            numbersOf(x);
            x.checksum();
            x.service();
            x.traffic(0);
            x.foremost(true);
            x.foremost(false);
            x.digit(0, 0);
            x.errorOffset();
        }
        checks.alike("asked", x, EveryState.with("exchange 1 1;line 1;"));
    }
}
