import java.util.ArrayList;
import java.util.HashSet;
import java.util.List;
import java.util.NoSuchElementException;

/** The bounds of what changes an exchange: promises 19 to 23, and which changes can be undone. */
final class ChangeBoundsTest {
    private static final Checks checks = new Checks();
    private static final String SETUP_IN_BUFFER = "exchange 2 2;line 7;call 7 7 7 7;";

    public static void main(String[] args) {
        dialBounds();
        dialRefused();
        dialWhenFull();
        dialNoDigit();
        dialComes();
        hangEveryState();
        hangFrees();
        hangRefused();
        ruleBounds();
        ruleRefused();
        passBounds();
        passCounts();
        passByOnes();
        undoDepth();
        finalChanges();
        undoKinds();
        undoSteps();
        undoFullHouse();
        loads();
        manyCalls();
        checks.end();
    }

    private static void dialBounds() {
        for (int line = 0; line < 5; line++) {
            for (int length = 1; length <= 6; length++) {
                for (int talk : new int[] {1, 2, 98, 99}) {
                    ExchangeControl x = EveryState.with("0987654321");
                    checks.due("dial", x.dial(line, length, talk), 12);
                    int[] want = {line, length, talk, 23, 0, -1, -1, -1, -1, 0, -1};
                    for (int what = 0; what <= 10; what++) {
                        checks.due("call(12, " + what + ")", x.call(12, what), want[what]);
                    }
                    for (int k = 0; k < length; k++) {
                        checks.due("digit " + k, x.digit(12, k), "098765".charAt(k) - '0');
                    }
                    int behind = length;
                    checks.dueThrow("no digit behind the last", NoSuchElementException.class, () -> x.digit(12, behind));
                    checks.due("the buffer is empty", x.append(0, 0, 0, 0, 0), 20);
                    checks.due("one more change", x.undo(), 3);
                    checks.due("as before", x.checksum(), EveryState.made().checksum());
                }
            }
        }
    }

    private static void dialRefused() {
        Checks.Maker digits = () -> EveryState.with("12345678901234567890");
        Checks.Maker setup = () -> EveryState.with(SETUP_IN_BUFFER);
        Checks.Maker full = () -> with(FullHouse.made(), SETUP_IN_BUFFER);
        for (Checks.Maker maker : new Checks.Maker[] {digits, setup, EveryState::made}) {
            for (int line : new int[] {-1, 5, 6, 12, Integer.MIN_VALUE, Integer.MAX_VALUE}) {
                checks.refused("dial(" + line + ", 1, 1)", IndexOutOfBoundsException.class, maker, x -> x.dial(line, 1, 1));
                checks.refused("dial(" + line + ", 0, 0)", IndexOutOfBoundsException.class, maker, x -> x.dial(line, 0, 0));
                checks.refused("dial(" + line + ", 7, 100)", IndexOutOfBoundsException.class, maker, x -> x.dial(line, 7, 100));
            }
            for (int length : new int[] {0, 7, 8, 20, 21, -1, Integer.MIN_VALUE, Integer.MAX_VALUE}) {
                checks.refused("dial(0, " + length + ", 1)", IllegalArgumentException.class, maker, x -> x.dial(0, length, 1));
                checks.refused("dial(4, " + length + ", 0)", IllegalArgumentException.class, maker, x -> x.dial(4, length, 0));
            }
            for (int talk : new int[] {0, 100, 101, -1, Integer.MIN_VALUE, Integer.MAX_VALUE}) {
                checks.refused("dial(0, 1, " + talk + ")", IllegalArgumentException.class, maker, x -> x.dial(0, 1, talk));
                checks.refused("dial(4, 6, " + talk + ")", IllegalArgumentException.class, maker, x -> x.dial(4, 6, talk));
            }
        }
        for (int length = 1; length <= 6; length++) {
            int one = length;
            checks.refused("dial with no bytes", IllegalArgumentException.class, EveryState::made, x -> x.dial(0, one, 1));
        }
        checks.refused("dial with no lines", IndexOutOfBoundsException.class, ExchangeControl::new, x -> x.dial(0, 1, 1));
        checks.refused("no such line among 12, and 40 calls", IndexOutOfBoundsException.class, full, x -> x.dial(12, 1, 1));
        checks.refused("no such line, and all else wrong", IndexOutOfBoundsException.class, full, x -> x.dial(-1, 0, 0));
        checks.refused("length 0 and 40 calls", IllegalArgumentException.class, full, x -> x.dial(11, 0, 1));
        checks.refused("length 7 and 40 calls", IllegalArgumentException.class, full, x -> x.dial(11, 7, 1));
        checks.refused("talk 0 and 40 calls", IllegalArgumentException.class, full, x -> x.dial(11, 1, 0));
        checks.refused("talk 100 and 40 calls", IllegalArgumentException.class, full, x -> x.dial(11, 1, 100));
        checks.refused("no bytes and 40 calls", IllegalArgumentException.class, FullHouse::made, x -> x.dial(11, 1, 1));
        checks.refused("40 calls, and no digits", IllegalStateException.class, full, x -> x.dial(0, 1, 1));
        checks.refused("40 calls", IllegalStateException.class, () -> with(FullHouse.made(), "123456"), x -> x.dial(0, 6, 99));
    }

    private static ExchangeControl with(ExchangeControl x, String buffer) {
        Checks.put(x, buffer);
        return x;
    }

    private static void dialWhenFull() {
        ExchangeControl x = FullHouse.withCalls(39);
        checks.due("39 calls", x.state(5), 39);
        checks.due("the 40th", Checks.dialled(x, 11, "1", 1), 39);
        Checks.put(x, "123456");
        checks.dueThrow("the 41st", IllegalStateException.class, () -> x.dial(11, 6, 1));
        x.undo();
        checks.due("its digits are in the buffer yet", x.dial(11, 6, 1), 39);
        checks.due("six of them", x.call(39, 1), 6);
        // calls that are over count too
        x.pass(300);
        Checks.put(x, "1");
        checks.dueThrow("a 41st though all are over", IllegalStateException.class, () -> x.dial(0, 1, 1));
    }

    /** A byte that is no digit empties the buffer and changes nothing else; one behind the row is of no account. */
    private static void dialNoDigit() {
        for (int at = 0; at < 6; at++) {
            for (char sign : new char[] {'/', ':', ' ', 0, 'a', (char) 176, (char) 255}) {
                String bytes = "999999".substring(0, at) + sign + "99999";
                for (int length = 1; length <= 6; length++) {
                    ExchangeControl x = EveryState.with(bytes);
                    checks.due("dial with byte " + (int) sign + " at " + at, x.dial(0, length, 1), length > at ? -1 : 12);
                    ExchangeControl twin = EveryState.made();
                    if (length <= at) {
                        Checks.put(twin, "999999");
                        twin.dial(0, length, 1);
                    }
                    checks.due("checksum", x.checksum(), twin.checksum());
                    if (at == 3 || sign == '/') {
                        checks.alike("dialled with byte " + (int) sign, x, twin);
                    }
                }
            }
        }
    }

    private static void dialComes() {
        ExchangeControl x = Checks.fresh("exchange 1 1;line 1;line 2;call 1 2 9 1;");
        checks.due("told at 0", Checks.dialled(x, 1, "1", 1), 1);
        checks.due("comes at 1", x.call(1, 3), 1);
        checks.due("not yet", x.line(1, 3) + x.line(1, 0), 0);
        x.pass(1);
        checks.due("by rising indexes, so behind the first", x.call(1, 4), 1);
        for (int k = 0; k < 4; k++) {
            x.pass(300);
        }
        checks.due("told at 1201", Checks.dialled(x, 0, "2", 1), 2);
        checks.due("comes at 1202", x.call(2, 3), 1202);
        checks.due("to come", x.call(2, 4), 0);
        x.pass(1);
        checks.due("it has come", x.call(2, 4), 2);
        checks.due("two at once from one line", Checks.dialled(x, 1, "1", 1) * 10 + Checks.dialled(x, 1, "1", 1), 34);
        x.pass(1);
        checks.due("the first waits", x.call(3, 4), 1);
        checks.due("the second is refused", x.call(4, 4), 10);
    }

    private static void hangEveryState() {
        for (int state = 0; state <= 5; state++) {
            ExchangeControl x = EveryState.made();
            int call = EveryState.CALL_IN[state];
            checks.due("hang in state " + state, x.hang(call), state);
            int[] want = EveryState.CALLS[call].clone();
            want[4] = 11;
            want[8] = 22;
            want[9] = 0;
            want[10] = -1;
            for (int what = 0; what <= 10; what++) {
                checks.due("hung up in " + state + ": call(" + call + ", " + what + ")", x.call(call, what), want[what]);
            }
            checks.due("its line is free, or was", x.line(x.call(call, 0), 0), state == 0 ? 1 : 0);
            checks.due("waits for a register", x.foremost(false), state == 1 ? -1 : 10);
            checks.due("waits for a marker", x.foremost(true), state == 3 ? -1 : 8);
            for (int register = 0; register < 3; register++) {
                int has = state == 4 - register ? -1 : 7 + register;
                checks.due("register " + register, x.register(register, 0), has);
                checks.due("its digits", x.register(register, 1), has < 0 ? 0 : 1);
            }
            checks.due("the marker", x.marker(0, 0), state == 4 ? -1 : 7);
            checks.due("its ticks", x.marker(0, 1), state == 4 ? 0 : 1);
            checks.due("busy trunks", x.group(0, 2), state == 5 ? 0 : 1);
            checks.due("what was counted stays", x.group(0, 4) * 1000 + x.group(0, 3) * 100 + x.group(0, 6), 1119);
            checks.dueThrow("hung up twice", IllegalStateException.class, () -> x.hang(call));
            checks.due("one more change", x.undo(), 3);
            checks.alike("hang undone", x, EveryState.made());
        }
    }

    /** What a hung up call had is free for others in the next tick. */
    private static void hangFrees() {
        ExchangeControl x = EveryState.made();
        x.hang(EveryState.CALL_IN[4]);
        x.pass(1);
        checks.due("the marker has the one that waited", x.marker(0, 0), 8);
        checks.due("the register has the one that waited", x.register(0, 0), 10);
        x = EveryState.made();
        x.hang(EveryState.CALL_IN[3]);
        x.pass(1);
        checks.due("none has waited for the marker", x.marker(0, 0), -1);
        // call 7 has left register 0 by then, and call 9 has given up register 2
        checks.due("the first of three registers has the one that waited", x.register(0, 0), 10);
        checks.due("register 1 is free", x.register(1, 0), -1);
        x = EveryState.made();
        x.hang(EveryState.CALL_IN[1]);
        x.pass(1);
        checks.due("none has waited for the register", x.register(2, 0), -1);
        x = EveryState.made();
        x.hang(EveryState.CALL_IN[5]);
        Checks.dialled(x, 0, "9", 3);
        x.pass(20);
        checks.due("the trunk is free for another", x.call(12, 6), 0);
        checks.due("its line too", x.call(12, 4), 6);
        x = Checks.at(5, "exchange 1 1;line 1;line 2;line 3;call 1 2 99 1;");
        x.hang(0);
        Checks.dialled(x, 2, "2", 3);
        x.pass(5);
        checks.due("the line that was called is free", x.call(1, 5), 1);
        x = Checks.at(2, "exchange 1 1;work 9;line 1;line 2;line 3;call 1 2 9 1;call 3 2 9 1;");
        x.hang(0);
        x.pass(1);
        checks.due("the only register", x.register(0, 0), 1);
        x.pass(1);
        checks.due("the only marker", x.marker(0, 0), 1);
        x = Checks.fresh("exchange 1 1;line 1;call 1 5 9 1;call 1 5 9 1;");
        x.hang(0);
        x.pass(1);
        checks.due("one that never came refuses none", x.call(1, 4), 2);
        checks.due("and did not come", x.line(0, 3), 1);
        checks.due("time of hanging up", x.call(0, 8), 0);
    }

    private static void hangRefused() {
        for (int state = 6; state <= 11; state++) {
            int call = EveryState.CALL_IN[state];
            checks.refused("hang in state " + state, IllegalStateException.class, EveryState::made, x -> x.hang(call));
        }
        for (int call : new int[] {-1, 12, 13, 40, Integer.MIN_VALUE, Integer.MAX_VALUE}) {
            checks.refused("hang(" + call + ")", IndexOutOfBoundsException.class, EveryState::made, x -> x.hang(call));
        }
        checks.refused("hang(40) of 40", IndexOutOfBoundsException.class, FullHouse::made, x -> x.hang(40));
        checks.refused("hang(0) of none", IndexOutOfBoundsException.class, ExchangeControl::new, x -> x.hang(0));
        checks.due("hang(39) of 40", FullHouse.made().hang(39), 0);
    }

    private static void ruleBounds() {
        int[] most = {40, 20, 9};
        for (int k = 0; k < 3; k++) {
            ExchangeControl x = EveryState.made();
            int before = x.state(19 + k);
            for (int value = 1; value <= most[k]; value++) {
                checks.due("rule(" + (19 + k) + ", " + value + ")", x.rule(19 + k, value), before);
                checks.due("told", x.state(19 + k), value);
                before = value;
            }
            ExchangeControl twin = EveryState.made();
            int[] others = {x.state(19), x.state(20), x.state(21)};
            int[] now = {40, 1, 2};
            for (int other = 0; other < 3; other++) {
                checks.due("the others stay", others[other], other == k ? most[k] : now[other]);
            }
            twin.rule(19 + k, most[k]);
            checks.due("nothing else changes", x.checksum(), twin.checksum());
        }
        ExchangeControl x = EveryState.made();
        checks.due("the same value", x.rule(19, 40), 40);
        checks.due("is a change", x.undo(), 3);
    }

    private static void ruleRefused() {
        int[] most = {40, 20, 9};
        for (int k = 0; k < 3; k++) {
            int what = 19 + k;
            for (int value : new int[] {0, -1, most[k] + 1, most[k] + 2, Integer.MIN_VALUE, Integer.MAX_VALUE}) {
                checks.refused("rule(" + what + ", " + value + ")", IllegalArgumentException.class, EveryState::made,
                    x -> x.rule(what, value));
            }
        }
        for (int what : new int[] {-1, 0, 1, 6, 7, 18, 22, 23, 24, 25, Integer.MIN_VALUE, Integer.MAX_VALUE}) {
            for (int value : new int[] {0, 1, 5, -1, Integer.MAX_VALUE, Integer.MIN_VALUE}) {
                checks.refused("rule(" + what + ", " + value + ")", IllegalArgumentException.class, EveryState::made,
                    x -> x.rule(what, value));
            }
        }
    }

    private static void passBounds() {
        for (int ticks : new int[] {0, -1, 301, 302, 600, Integer.MIN_VALUE, Integer.MAX_VALUE}) {
            checks.refused("pass(" + ticks + ")", IllegalArgumentException.class, EveryState::made, x -> x.pass(ticks));
            checks.refused("pass(" + ticks + ")", IllegalArgumentException.class, ExchangeControl::new, x -> x.pass(ticks));
        }
        for (int ticks : new int[] {1, 2, 299, 300}) {
            ExchangeControl x = EveryState.made();
            x.pass(ticks);
            checks.due("pass(" + ticks + ")", x.state(6), 22 + ticks);
            checks.due("one change", x.undo(), 3);
            checks.alike("undone", x, EveryState.made());
        }
    }

    /** A call that ends at 8 ends in the ticks that go up to 8. */
    private static void passCounts() {
        String text = "exchange 4 3;line 1;line 2;line 3;line 4;call 1 2 4 1;call 3 4 4 1;call 1 3 4 9;";
        for (int ticks = 1; ticks <= 40; ticks++) {
            ExchangeControl x = Checks.fresh(text);
            int well = ticks >= 16 ? 3 : ticks >= 8 ? 2 : 0;
            checks.due("pass(" + ticks + ")", x.pass(ticks), well);
            checks.due("and the rest", x.pass(40), 3 - well);
            checks.due("and no more", x.pass(300), 0);
        }
    }

    private static void passByOnes() {
        ExchangeControl x = EveryState.made();
        ExchangeControl y = EveryState.made();
        int well = 0;
        for (int tick = 0; tick < 300; tick++) {
            well += x.pass(1);
        }
        checks.due("as many ended well", y.pass(300), well);
        checks.due("300 times one tick", x.checksum(), y.checksum());
    }

    /** With each number of changes: as many as 8 can be undone, each to what was before it. */
    private static void undoDepth() {
        for (int changes = 0; changes <= 20; changes++) {
            ExchangeControl x = new ExchangeControl();
            long[] before = new long[21];
            for (int k = 0; k < changes; k++) {
                before[k] = x.checksum();
                x.rule(19, 1 + k);
            }
            before[changes] = x.checksum();
            int can = Math.min(changes, 8);
            for (int k = 1; k <= can; k++) {
                checks.due("undo " + k + " of " + changes, x.undo(), can - k);
                checks.due("as before", x.checksum(), before[changes - k]);
            }
            for (int times = 0; times < 3; times++) {
                checks.due("none to undo of " + changes, x.undo(), -1);
                checks.due("nothing changes", x.checksum(), before[changes - can]);
            }
            x.rule(20, 9);
            checks.due("a new change can be undone", x.undo(), 0);
            checks.due("as before it", x.checksum(), before[changes - can]);
        }
    }

    /** Changes, some of them undone, and more changes: what has had 8 later ones, none of them undone, is final. */
    private static void finalChanges() {
        for (int first = 0; first <= 10; first++) {
            for (int undone = 0; undone <= 9; undone++) {
                for (int more = 0; more <= 10; more++) {
                    int left = Math.min(first, 8) - Math.min(undone, Math.min(first, 8));
                    int want = Math.min(left + more, 8);
                    ExchangeControl x = new ExchangeControl();
                    for (int k = 0; k < first; k++) {
                        x.pass(1);
                    }
                    for (int k = 0; k < undone; k++) {
                        x.undo();
                    }
                    int time = x.state(6);
                    for (int k = 0; k < more; k++) {
                        x.pass(1);
                    }
                    for (int k = 1; k <= want; k++) {
                        checks.due("undo", x.undo(), want - k);
                        checks.due("time", x.state(6), time + more - k);
                    }
                    checks.due(first + " changes, " + undone + " undone, " + more + " more", x.undo(), -1);
                }
            }
        }
    }

    /** Each kind of change, with 8 others behind it and with 7. */
    private static void undoKinds() {
        Checks.Call[] kinds = {x -> x.pass(3), x -> x.hang(11), x -> x.rule(21, 9), x -> Checks.dialled(x, 0, "1", 9),
            x -> Checks.loaded(x, "exchange 2 2;line 1;group z 8 7;route 1 6 z;call 1 1 1 1;")};
        for (Checks.Call kind : kinds) {
            for (int later = 0; later <= 9; later++) {
                ExchangeControl x = EveryState.made();
                kind.on(x);
                long after = x.checksum();
                for (int k = 0; k < later; k++) {
                    x.rule(20, 20 - k);
                }
                for (int k = 0; k < later; k++) {
                    x.undo();
                }
                checks.due("as after it", x.checksum(), later <= 8 ? after : x.checksum());
                if (later < 8) {
                    // load, pass and hang made three changes before it
                    checks.due("undo it", x.undo(), Math.min(7 - later, 3));
                    checks.due("as before it", x.checksum(), EveryState.made().checksum());
                    checks.due("the call that dialled is no more", x.state(5), 12);
                } else {
                    checks.due("it is final", x.undo(), -1);
                }
            }
        }
    }

    /** Tick by tick, eight ticks at a time are taken back and pass once more; all that is told comes back. */
    private static void undoSteps() {
        String text = "exchange 2 2;timeout 6;work 3;line 1;line 2;line 3;line 4;line 5;line 6;group a 1 0;group b 3 1;"
            + "route 9 2 a b;call 6 99 50 1;call 5 99 9 1;call 4 99 12 2;call 3 8 1 2;call 2 8 1 1;call 1 2 7 3;call 2 99 9 22;"
            + "call 6 1 1 3;call 3 99 9 30;call 5 3 4 31;call 4 5 5 36;";
        List<List<String>> due = new ArrayList<>();
        for (int time = 0; time <= 64; time++) {
            due.add(Transcript.of(time == 0 ? Checks.fresh(text) : stepped(text, time)));
        }
        for (int start = 0; start <= 56; start++) {
            for (int back = 1; back <= 8; back++) {
                ExchangeControl x = stepped(text, start + 8);
                for (int k = 1; k <= back; k++) {
                    checks.due("undo", x.undo(), 8 - k);
                }
                ExchangeControl y = stepped(text, start + 8 - back);
                checks.due("as at " + (start + 8 - back), x.checksum(), y.checksum());
                checks.due("waits for a register", x.foremost(false), y.foremost(false));
                checks.due("waits for a marker", x.foremost(true), y.foremost(true));
                for (int state = 0; state <= 11; state++) {
                    checks.due("foretold", x.foretold(20, state), y.foretold(20, state));
                }
                x.pass(5);
                y.pass(5);
                checks.due("and goes on as from there", x.checksum(), y.checksum());
            }
        }
        checks.due("each time tells something else", new HashSet<>(due).size(), due.size());
    }

    private static ExchangeControl stepped(String text, int ticks) {
        ExchangeControl x = Checks.fresh(text);
        for (int tick = 0; tick < ticks; tick++) {
            x.pass(1);
        }
        return x;
    }

    /** All data come back, of as many things as there may be. */
    private static void undoFullHouse() {
        ExchangeControl x = FullHouse.made();
        x.pass(7);
        Checks.loaded(x, "exchange 1 1;");
        Checks.loaded(x, EveryState.TEXT);
        x.pass(300);
        checks.due("undo", x.undo() * 100 + x.undo() * 10 + x.undo(), 654);
        ExchangeControl twin = FullHouse.made();
        twin.pass(7);
        checks.due("as it was", x.checksum(), twin.checksum());
        Checks.put(x, "01");
        checks.due("the last line", x.look(2, 0), 11);
        Checks.put(x, "1");
        x.load(0);
        Checks.put(x, "777777");
        checks.due("the last route", x.look(6, 1), 7);
        checks.due("and its group", x.look(6, 3), 4);
    }

    private static void loads() {
        ExchangeControl x = EveryState.made();
        long before = x.checksum();
        checks.due("an error", Checks.loaded(x, "exchange 1 1"), ExchangeControl.SYNTAX_ERROR);
        checks.due("is no change", x.undo(), 2);
        checks.due("so the latest change is undone", x.call(6, 4), 0);
        x = EveryState.made();
        checks.due("a load", Checks.loaded(x, EveryState.TEXT), 12);
        checks.due("the time is 0", x.state(6), 0);
        checks.due("all counts too", x.state(23) + x.state(24) + x.group(0, 6) + x.group(0, 4) + x.line(0, 3), 0);
        checks.due("as the first time", x.checksum(), Checks.fresh(EveryState.TEXT).checksum());
        checks.due("the same text again", Checks.loaded(x, EveryState.TEXT), 12);
        checks.due("is a change", x.undo(), 4);
        checks.due("undo the first of them", x.undo(), 3);
        checks.due("as before", x.checksum(), before);
    }

    /** An object answers as it should up to its 512th call. */
    private static void manyCalls() {
        ExchangeControl x = new ExchangeControl();
        for (int call = 1; call <= 510; call++) {
            x.pass(300);
        }
        checks.due("call 511", x.state(6), 153000);
        checks.due("call 512", x.undo(), 7);
        ExchangeControl y = EveryState.made();
        for (int times = 0; times < 250; times++) {
            checks.due("index", Checks.dialled(y, 0, "123456", 99), 12);
            checks.due("undo", y.undo(), 3);
        }
        checks.due("as it was", y.checksum(), EveryState.made().checksum());
    }
}
