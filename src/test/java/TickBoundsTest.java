/** The bounds of how a tick passes: when calls come, are refused, dial, wait, find their way, talk and end. */
final class TickBoundsTest {
    private static final Checks checks = new Checks();
    private static final String TWELVE = "exchange 1 1;" + Checks.times(10, "line %d;") + "line 00;line 01;";

    public static void main(String[] args) {
        comes();
        busyCaller();
        busyCalled();
        guardOfTwelve();
        guardOrMore();
        digitsAndWork();
        timeouts();
        shorterTimeout();
        routeLengths();
        longerPrefix();
        talks();
        firstChoice();
        otherChoice();
        threeChoices();
        waitingForMarkers();
        risingMarkers();
        freeRegisters();
        freeMarkers();
        sameTick();
        longestQueue();
        leadingZeros();
        lastCall();
        checks.end();
    }

    private static void comes() {
        ExchangeControl x = Checks.fresh("exchange 1 1;line 1;line 2;call 1 5 1 999;call 2 5 1 1;");
        checks.due("at 0 none has come", x.state(7), 2);
        x.pass(1);
        checks.due("the one at 1 has", x.call(1, 4), 2);
        x.pass(300);
        x.pass(300);
        x.pass(300);
        x.pass(97);
        checks.due("998", x.state(6), 998);
        checks.due("not yet", x.call(0, 4), 0);
        checks.due("none of its line", x.line(0, 3), 0);
        x.pass(1);
        checks.due("at 999", x.call(0, 4), 2);
        checks.due("one of its line", x.line(0, 3), 1);
        x.pass(1);
        checks.due("it comes once", x.line(0, 3), 1);
    }

    /** Call 1 waits from 5, has a register from 6, a marker from 7, talks from 9 and has ended at 11. */
    private static ExchangeControl second(String line, int comes) {
        return Checks.fresh("exchange 1 1;line 1;line 2;line 3;call 3 5 1 1;call 1 2 2 5;call " + line + " 5 1 " + comes + ";");
    }

    private static void busyCaller() {
        for (int comes = 5; comes <= 14; comes++) {
            ExchangeControl x = second("1", comes);
            x.pass(comes);
            checks.due("comes from the caller at " + comes, x.call(2, 4), comes <= 11 ? 10 : 2);
            checks.due("refused at " + comes, x.call(2, 8), comes <= 11 ? comes : -1);
            checks.due("both have come", x.line(0, 3), 2);
            x.pass(20);
            checks.due("the first one ends well", x.call(1, 4), 6);
            checks.due("at 11", x.call(1, 8), 11);
        }
        ExchangeControl before = second("1", 4);
        before.pass(5);
        checks.due("one that came before it", before.call(2, 4), 1);
        checks.due("refuses it", before.call(1, 4), 10);
    }

    private static void busyCalled() {
        for (int comes = 5; comes <= 14; comes++) {
            ExchangeControl x = second("2", comes);
            x.pass(comes);
            boolean refused = comes == 10 || comes == 11;
            checks.due("comes from the called at " + comes, x.call(2, 4), refused ? 10 : comes >= 9 ? 2 : 1);
            x.pass(20);
            checks.due("the first call's end", x.call(1, 4), comes <= 9 ? 7 : 6);
            checks.due("the line with which it talked", x.call(1, 5), comes <= 9 ? -1 : 1);
            checks.due("the time of its end", x.call(1, 8), comes <= 9 ? 9 : 11);
        }
    }

    /** Twelve lines call at once: as many come in as guard tells. */
    private static void guardOfTwelve() {
        for (int guard = 1; guard <= 40; guard++) {
            ExchangeControl x = Checks.at(1, TWELVE + "guard " + guard + ";" + Checks.times(10, "call %d 77 9 1;")
                + "call 00 77 9 1;call 01 77 9 1;");
            int in = Math.min(guard, 12);
            checks.due("refused by guard " + guard, x.state(17), 12 - in);
            checks.due("waiting", x.state(8), in - 1);
            checks.due("the longest queue", x.state(24), in - 1);
            checks.due("the last that came in", x.call(in - 1, 4), in == 1 ? 2 : 1);
            checks.due("busy lines", x.state(22), in);
        }
    }

    /** Ten wait when the last one comes: it is refused by a guard of ten, and by a smaller one. */
    private static void guardOrMore() {
        for (int guard = 1; guard <= 40; guard++) {
            ExchangeControl x = Checks.at(1, TWELVE + "timeout 20;" + Checks.times(10, "call %d 77 9 1;")
                + "call 00 77 9 1;call 01 77 9 2;");
            checks.due("ten wait", x.state(8), 10);
            x.rule(19, guard);
            checks.due("they go on waiting", x.state(8), 10);
            x.pass(1);
            checks.due("with guard " + guard, x.call(11, 4), guard <= 10 ? 10 : 1);
            checks.due("those that wait stay", x.state(8), guard <= 10 ? 10 : 11);
        }
    }

    /** A row of each length, and a marker that works each number of ticks. */
    private static void digitsAndWork() {
        for (int length = 1; length <= 6; length++) {
            for (int work = 1; work <= 9; work++) {
                String row = "765432".substring(0, length);
                ExchangeControl x = Checks.fresh("exchange 1 1;line 1;line " + row + ";work " + work + ";call 1 " + row + " 9 1;");
                for (int time = 1; time <= length + work; time++) {
                    x.pass(1);
                    boolean dials = time <= length;
                    checks.due("state", x.call(0, 4), dials ? 2 : 4);
                    checks.due("digits", x.register(0, 1), dials ? time - 1 : length);
                    checks.due("waits for none", x.register(0, 2), 0);
                    checks.due("the marker's ticks", x.marker(0, 1), dials ? 0 : work - (time - 1 - length));
                }
                x.pass(1);
                checks.due(length + " digits and work " + work, x.call(0, 4), 5);
                checks.due("began", x.call(0, 7), 1 + length + work);
                checks.due("its register is free", x.register(0, 0), -1);
                checks.due("its marker is free", x.marker(0, 0), -1);
                checks.due("all ticks are left", x.call(0, 9), 9);
            }
        }
    }

    /** A row of each length that is never complete, and each timeout. */
    private static void timeouts() {
        for (int length = 1; length <= 6; length++) {
            for (int timeout = 1; timeout <= 20; timeout++) {
                ExchangeControl x = Checks.fresh("exchange 1 1;line 1;timeout " + timeout + ";call 1 "
                    + "222222".substring(0, length) + " 9 1;");
                x.pass(length + timeout - 1);
                checks.due("a tick before", x.call(0, 4), 2);
                checks.due("it has waited", x.register(0, 2), timeout - 1);
                checks.due("all digits are dialled", x.register(0, 1), Math.min(length, length + timeout - 2));
                x.pass(1);
                checks.due(length + " digits and timeout " + timeout, x.call(0, 4), 9);
                checks.due("given up at", x.call(0, 8), length + timeout);
                checks.due("the register is free", x.register(0, 0), -1);
                checks.due("no ticks", x.register(0, 2), 0);
                checks.due("the line is free", x.line(0, 0), 0);
            }
        }
    }

    /** A timeout told when its register has waited 7 ticks: given up in the next one if 8 are enough. */
    private static void shorterTimeout() {
        for (int timeout = 1; timeout <= 20; timeout++) {
            ExchangeControl x = Checks.at(8, "exchange 1 1;line 1;timeout 15;call 1 5 9 1;");
            checks.due("waited", x.register(0, 2), 7);
            x.rule(20, timeout);
            checks.due("not before a tick passes", x.call(0, 4), 2);
            x.pass(1);
            checks.due("timeout " + timeout, x.call(0, 4), timeout <= 8 ? 9 : 2);
            x.pass(20);
            checks.due("given up at", x.call(0, 8), 1 + Math.max(timeout, 8));
        }
    }

    /** Each prefix, length and number of digits: complete at the length, neither before nor behind it. */
    private static void routeLengths() {
        for (int prefix = 1; prefix <= 5; prefix++) {
            for (int length = prefix; length <= 6; length++) {
                for (int digits = 1; digits <= 6; digits++) {
                    ExchangeControl x = Checks.at(60, "exchange 1 1;line 2;group a 1 0;route " + "111111".substring(0, prefix)
                        + " " + length + " a;call 2 " + "111111".substring(0, digits) + " 9 1;");
                    String what = "prefix " + prefix + " length " + length + " digits " + digits;
                    checks.due(what, x.call(0, 4), digits >= length ? 6 : 9);
                    checks.due(what + ": group", x.call(0, 6), digits >= length ? 0 : -1);
                    checks.due(what + ": over", x.call(0, 8), digits >= length ? 1 + length + 2 + 9 : digits + 5);
                }
            }
        }
    }

    /** The longest prefix of all with which the row begins decides, also if a shorter one would be complete. */
    private static void longerPrefix() {
        for (int length = 2; length <= 6; length++) {
            ExchangeControl x = Checks.at(40, "exchange 1 1;line 2;group a 1 0;group b 1 0;route 1 2 a;route 11 " + length
                + " b;call 2 111111 9 1;");
            checks.due("over b", x.call(0, 6), 1);
            checks.due("began", x.call(0, 7), 1 + length + 2);
            ExchangeControl y = Checks.at(40, "exchange 1 1;line 2;group a 1 0;group b 1 0;route 11 " + length
                + " b;route 1 2 a;call 2 121111 9 1;");
            checks.due("over a", y.call(0, 6), 0);
            checks.due("began at two digits", y.call(0, 7), 5);
        }
        ExchangeControl x = Checks.at(40, "exchange 1 1;line 2;line 111;group a 1 0;route 1 4 a;route 11 3 a;call 2 1111 9 1;");
        checks.due("a line's number before a route of the same row", x.call(0, 5), 1);
        checks.due("no group", x.call(0, 6), -1);
        ExchangeControl y = Checks.at(40, "exchange 1 1;line 2;line 11;line 111;group a 1 0;route 1 1 a;call 2 111 9 1;");
        checks.due("a row that is complete at its first digit", y.call(0, 6), 0);
    }

    private static void talks() {
        for (int talk = 1; talk <= 99; talk++) {
            ExchangeControl x = Checks.at(4, "exchange 1 1;line 1;line 2;call 1 2 " + talk + " 1;");
            checks.due("all ticks are left", x.call(0, 9), talk);
            checks.due("none ends before", talk > 1 ? x.pass(talk - 1) : 0, 0);
            checks.due("one is left", x.call(0, 9), 1);
            checks.due("it talks", x.call(0, 4), 5);
            checks.due("it ends", x.pass(1), 1);
            checks.due("ended well", x.call(0, 4), 6);
            checks.due("after " + talk, x.call(0, 8), 4 + talk);
            checks.due("none is left", x.call(0, 9), 0);
        }
    }

    /** Of 1 to 8 trunks the last one is free for a first choice, whatever is held back. */
    private static void firstChoice() {
        for (int trunks = 1; trunks <= 8; trunks++) {
            for (int held = 0; held < trunks; held++) {
                ExchangeControl x = Checks.fresh("exchange 4 3;work 1;" + Checks.times(10, "line 1%d;") + "group b " + trunks + " "
                    + held + ";route 9 1 b;" + Checks.times(trunks + 1, "call 1%d 9 99 2%1$d;"));
                x.pass(40);
                checks.due("busy trunks of " + trunks, x.group(0, 2), trunks);
                checks.due("begun", x.group(0, 4), trunks);
                checks.due("none as another choice", x.group(0, 5), 0);
                checks.due("blocked", x.state(15), 1);
                checks.due("overflows", x.group(0, 3), 1);
            }
        }
    }

    /** Of 8 trunks, some busy and some held back: free for another choice if more are not busy than are held back. */
    private static void otherChoice() {
        for (int held = 0; held <= 7; held++) {
            for (int busy = 0; busy <= 8; busy++) {
                StringBuilder text = new StringBuilder("exchange 4 3;work 1;" + Checks.times(10, "line 1%d;")
                    + "group a 1 0;group b 8 " + held + ";route 8 1 a b;route 9 1 b;call 19 8 99 1;");
                for (int k = 0; k < busy; k++) {
                    text.append("call 1").append(k).append(" 9 99 ").append(2 + k).append(';');
                }
                ExchangeControl x = Checks.at(20, text + "call 18 8 99 21;");
                checks.due("busy", x.group(1, 2), busy);
                checks.due("the only trunk of a", x.group(0, 2), 1);
                boolean free = 8 - busy > held;
                Checks.put(x, "8");
                checks.due("looked at", x.look(1, 3), free ? 1 : -1);
                x.pass(4);
                String what = held + " held, " + busy + " busy";
                checks.due(what, x.call(busy + 1, 4), free ? 5 : 8);
                checks.due(what + ": over b", x.group(1, 5), free ? 1 : 0);
                checks.due(what + ": overflows of a", x.group(0, 3), 1);
                checks.due(what + ": overflows of b", x.group(1, 3), free ? 0 : 1);
                checks.due(what + ": all overflows", x.state(23), free ? 1 : 2);
            }
        }
    }

    /** Routes of one, two and three groups: the first free one, and an overflow for each one before it alone. */
    private static void threeChoices() {
        String[] choices = {"a", "a b", "a b c"};
        for (int count = 1; count <= 3; count++) {
            ExchangeControl x = Checks.fresh("exchange 4 3;work 1;" + Checks.times(6, "line %d;") + "group a 1 0;group b 1 0;"
                + "group c 1 0;route 9 1 " + choices[count - 1] + ";call 0 9 99 1;call 1 9 99 2;call 2 9 99 3;call 3 9 99 4;");
            x.pass(10);
            for (int call = 0; call < 4; call++) {
                checks.due("group of " + call, x.call(call, 6), call < count ? call : -1);
                checks.due("state of " + call, x.call(call, 4), call < count ? 5 : 8);
            }
            for (int group = 0; group < 3; group++) {
                checks.due("overflows of " + group, x.group(group, 3), group < count ? 3 - group : 0);
                checks.due("begun over " + group, x.group(group, 4), group < count ? 1 : 0);
                checks.due("as another choice", x.group(group, 5), group < count && group > 0 ? 1 : 0);
            }
            checks.due("blocked", x.state(15), 4 - count);
        }
    }

    /** Four wait with their registers; the marker takes the one that was complete first, not the least index. */
    private static void waitingForMarkers() {
        ExchangeControl x = Checks.at(6, "exchange 4 1;work 9;line 1;line 2;line 3;line 4;line 5555;line 666;line 77;line 8;"
            + "call 1 5555 1 1;call 2 666 1 1;call 3 77 1 1;call 4 8 1 1;");
        checks.due("three wait", x.state(10), 3);
        checks.due("the marker has", x.marker(0, 0), 3);
        checks.due("the foremost", x.foremost(true), 2);
        x.pass(5);
        checks.due("at 11 the next one", x.marker(0, 0), 2);
        x.pass(9);
        checks.due("at 20 the next one", x.marker(0, 0), 1);
        x.pass(9);
        checks.due("at 29 the last one", x.marker(0, 0), 0);
        checks.due("none waits", x.foremost(true), -1);
    }

    /** Registers by rising indexes put their calls in the queue, and markers by rising indexes look for a way. */
    private static void risingMarkers() {
        // call 1 has register 0 and call 0 register 1; both are complete at 3
        ExchangeControl x = Checks.at(3, "exchange 2 2;line 1;line 2;group a 1 0;route 8 2 a;route 9 1 a;call 1 9 9 2;call 2 88 9 1;");
        checks.due("register 0", x.register(0, 0), 1);
        checks.due("register 1", x.register(1, 0), 0);
        checks.due("marker 0", x.marker(0, 0), 1);
        checks.due("marker 1", x.marker(1, 0), 0);
        x.pass(2);
        checks.due("marker 0 finds the trunk", x.call(1, 4), 5);
        checks.due("marker 1 finds none", x.call(0, 4), 8);
        // calls 2 and 3 have the registers to 6; call 1 has waited longer than call 0 then
        ExchangeControl y = Checks.at(9, "exchange 2 2;line 1;line 2;line 3;line 4;line 5;call 1 3 9 3;call 2 3 9 2;"
            + "call 4 77 9 1;call 5 77 9 1;timeout 4;");
        checks.due("marker 0 finds the line", y.call(1, 5), 2);
        checks.due("marker 1 finds it busy", y.call(0, 4), 7);
        checks.due("at 9", y.call(0, 8) * 10 + y.call(1, 7), 99);
    }

    private static void freeRegisters() {
        ExchangeControl x = Checks.at(1, "exchange 4 1;timeout 20;line 1;line 2;line 3;line 4;line 5;line 6;line 7;"
            + "call 4 99 1 1;call 3 99 1 1;call 2 99 1 1;call 1 99 1 1;call 7 99 1 1;call 6 99 1 1;call 5 99 1 2;");
        for (int register = 0; register < 4; register++) {
            checks.due("register " + register, x.register(register, 0), register);
        }
        checks.due("the fifth waits", x.call(4, 10), -1);
        x.hang(3);
        x.hang(1);
        x.hang(0);
        checks.due("none takes a register before a tick passes", x.register(0, 0), -1);
        x.pass(1);
        checks.due("the longest waiting has the first free one", x.register(0, 0), 4);
        checks.due("the next has the next", x.register(1, 0), 5);
        checks.due("the one between goes on", x.register(2, 0), 2);
        checks.due("the one that came last has the last", x.register(3, 0), 6);
        checks.due("no digit yet", x.register(3, 1), 0);
        x.pass(1);
        checks.due("a digit", x.register(3, 1), 1);
    }

    private static void freeMarkers() {
        ExchangeControl x = Checks.at(2, "exchange 4 3;work 9;line 1;line 2;line 3;line 4;line 5;"
            + "call 1 5 1 1;call 2 5 1 1;call 3 5 1 1;call 4 5 1 1;");
        for (int marker = 0; marker < 3; marker++) {
            checks.due("marker " + marker, x.marker(marker, 0), marker);
            checks.due("its ticks", x.marker(marker, 1), 9);
        }
        checks.due("the fourth waits", x.foremost(true), 3);
        x.hang(0);
        x.hang(2);
        checks.due("none takes a marker before a tick passes", x.marker(0, 0), -1);
        x.rule(21, 4);
        x.pass(1);
        checks.due("the first free marker has it", x.marker(0, 0), 3);
        checks.due("with the work of now", x.marker(0, 1), 4);
        checks.due("another goes on with the ticks that are left", x.marker(1, 1), 8);
        checks.due("the last one is free", x.marker(2, 0), -1);
    }

    /** What a step of a tick frees, a later step of the same tick finds free; what it takes, it finds taken. */
    private static void sameTick() {
        // call 0 talks with line 2 from 4; call 1 looks for line 2 at 9
        for (int talk = 4; talk <= 6; talk++) {
            ExchangeControl x = Checks.at(9, "exchange 1 1;line 1;line 2;line 3;call 1 2 " + talk + " 1;call 3 2 9 6;");
            checks.due("a line that is free from " + (4 + talk), x.call(1, 4), talk <= 5 ? 5 : 7);
        }
        ExchangeControl x = Checks.at(2, "exchange 1 1;timeout 1;line 1;line 2;call 1 5 9 1;call 2 5 9 2;");
        checks.due("a register that gave up at 2", x.call(0, 8), 2);
        checks.due("is taken at 2", x.register(0, 0), 1);
        x = Checks.at(4, "exchange 2 1;line 1;line 2;line 3;call 1 3 9 1;call 2 3 9 1;");
        checks.due("a marker that is free at 4", x.call(0, 7), 4);
        checks.due("is taken at 4", x.marker(0, 0), 1);
        checks.due("with all its ticks", x.marker(0, 1), 2);
        x = Checks.at(2, "exchange 1 1;work 1;line 1;line 2;call 1 2 9 1;");
        checks.due("complete and taken by a marker at 2", x.call(0, 4), 4);
        x.pass(1);
        checks.due("no tick of the talk passes in the tick in which it began", x.call(0, 9), 9);
    }

    /** The most that waited at the end of a tick: not those that came and had a register in the same tick. */
    private static void longestQueue() {
        ExchangeControl x = Checks.fresh("exchange 4 1;timeout 20;" + Checks.times(7, "line 1%d;") + Checks.times(4, "call 1%d 77 1 1;")
            + "call 14 77 1 3;call 15 77 1 4;call 16 77 1 5;");
        checks.due("at 0", x.state(24), 0);
        x.pass(1);
        checks.due("four came and four have registers", x.state(24), 0);
        x.pass(2);
        checks.due("one waits", x.state(24), 1);
        x.pass(2);
        checks.due("three wait", x.state(24), 3);
        x.hang(4);
        x.hang(5);
        x.pass(1);
        checks.due("one waits, three waited", x.state(8) * 10 + x.state(24), 13);
        x.undo();
        x.undo();
        x.undo();
        x.undo();
        checks.due("taken back", x.state(24), 1);
        Checks.loaded(x, "exchange 1 1;");
        checks.due("since the latest load", x.state(24), 0);
    }

    private static void leadingZeros() {
        String lines = "exchange 1 1;line 7;line 07;line 007;line 1;";
        checks.due("7", Checks.at(20, lines + "call 1 7 1 1;").call(0, 5), 0);
        checks.due("07", Checks.at(20, lines + "call 1 07 1 1;").call(0, 5), 1);
        checks.due("007", Checks.at(20, lines + "call 1 007 1 1;").call(0, 5), 2);
        checks.due("0007", Checks.at(20, lines + "call 1 0007 1 1;").call(0, 4), 9);
        checks.due("70", Checks.at(20, lines + "call 1 70 1 1;").call(0, 5), 0);
        String routes = "exchange 1 1;line 5;group a 1 0;group b 1 0;route 0 3 a;route 00 3 b;";
        checks.due("012", Checks.at(20, routes + "call 5 012 1 1;").call(0, 6), 0);
        checks.due("001", Checks.at(20, routes + "call 5 001 1 1;").call(0, 6), 1);
        checks.due("12", Checks.at(20, routes + "call 5 12 1 1;").call(0, 4), 9);
    }

    /** The 40th call is one like the others, and the time goes on behind the last one. */
    private static void lastCall() {
        ExchangeControl x = FullHouse.withCalls(0);
        for (int call = 0; call < 40; call++) {
            checks.due("index", Checks.dialled(x, call % 2 == 0 ? 2 : 11, "3", 1), call);
            x.pass(5);
        }
        for (int call = 0; call < 40; call++) {
            checks.due("ended well", x.call(call, 4), 6);
            checks.due("came at", x.call(call, 3), 1 + 5 * call);
            checks.due("ended at", x.call(call, 8), 1 + 5 * call + 4);
            checks.due("talked with", x.call(call, 5), 3);
        }
        checks.due("all 40", x.state(13), 40);
        checks.due("20 from each", x.line(2, 4) * 100 + x.line(11, 4), 2020);
        x.pass(300);
        checks.due("the time", x.state(6), 500);
    }
}
