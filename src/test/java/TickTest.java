/** How a tick passes. */
final class TickTest {
    private static final Checks checks = new Checks();

    public static void main(String[] args) {
        coming();
        orderOfSteps();
        lines();
        choices();
        completeDigits();
        waiting();
        queues();
        checks.end();
    }

    private static void coming() {
        ExchangeControl x = Checks.at(1, "exchange 1 1;guard 2;line 1;line 2;line 3;line 4;call 1 5 1 1;call 1 5 1 1;"
            + "call 2 5 1 1;call 3 5 1 1;call 4 5 1 2;");
        checks.due("the first has the register", x.call(0, 4), 2);
        checks.due("the second's line is busy", x.call(1, 4), 10);
        checks.due("refused at", x.call(1, 8), 1);
        checks.due("the third waits", x.call(2, 4), 1);
        checks.due("the fourth meets two that wait", x.call(3, 4), 10);
        x.pass(1);
        checks.due("the fifth meets one", x.call(4, 4), 1);
        checks.due("the most that waited at the end of a tick", x.state(24), 2);
        ExchangeControl y = Checks.at(1, "exchange 1 1;guard 1;line 1;line 2;call 2 5 1 1;call 1 5 1 1;");
        checks.due("registers are taken after all have come", y.call(1, 4), 10);
        y.rule(19, 40);
        y.pass(1);
        checks.due("what was refused stays so", y.call(1, 4), 10);
    }

    private static void orderOfSteps() {
        String text = "exchange 2 2;line 1;line 2;line 3;work 1;group a 1 0;route 9 1 a;call 1 9 3 1;call 2 9 1 4;";
        // call 0 talks from 3 to 6; call 1 has its marker at 5 and looks for a way at 6
        ExchangeControl x = Checks.at(6, text);
        checks.due("a trunk freed in a tick is found in it", x.call(1, 4), 5);
        x = Checks.at(6, text.replace("9 3 1;", "9 4 1;"));
        checks.due("a trunk freed in the next tick is not", x.call(1, 4), 8);
        x = Checks.fresh("exchange 1 1;line 1;line 2;line 3;group a 8 0;route 9 1 a;work 1;"
            + "call 1 9 1 1;call 2 9 1 1;");
        x.pass(2);
        checks.due("dialled: has the marker in the same tick", x.call(0, 4), 4);
        x.pass(1);
        checks.due("a register freed in a tick is taken in it", x.call(1, 4), 2);
        checks.due("no digit in the tick in which it is taken", x.register(0, 1), 0);
        x.pass(1);
        checks.due("talks one tick", x.call(0, 4), 6);
        checks.due("a line that comes as it ends is busy yet",
            Checks.at(4, "exchange 1 1;line 1;work 1;group a 8 0;route 9 1 a;call 1 9 1 1;call 1 9 1 4;").call(1, 4), 10);
        checks.due("and free in the next tick",
            Checks.at(5, "exchange 1 1;line 1;work 1;group a 8 0;route 9 1 a;call 1 9 1 1;call 1 9 1 5;").call(1, 4), 2);
    }

    private static void lines() {
        ExchangeControl x = Checks.fresh("exchange 4 3;line 1;line 2;line 3;line 4;work 1;call 1 1 5 1;call 2 3 5 1;"
            + "call 4 3 5 1;");
        x.pass(3);
        checks.due("one's own line is busy", x.call(0, 4), 7);
        checks.due("two call a free line: the first talks", x.call(1, 5), 2);
        checks.due("the second finds it busy", x.call(2, 4), 7);
        checks.due("and has no partner", x.call(2, 5), -1);
        checks.due("and did not talk", x.call(2, 7), -1);
        Checks.dialled(x, 2, "1", 3);
        x.pass(1);
        checks.due("a line that is called can't call", x.call(3, 4), 10);
        checks.due("a line that is free after a busy end", x.line(0, 0), 0);
    }

    private static void choices() {
        String text = "exchange 4 3;line 1;line 2;line 3;line 4;work 1;group a 1 0;group b 2 1;group c 1 0;"
            + "route 9 1 a b c;route 8 1 b;call 1 9 50 1;call 2 9 50 2;call 3 9 50 3;call 4 8 50 4;";
        ExchangeControl x = Checks.at(6, text);
        checks.due("the first choice", x.call(0, 6), 0);
        checks.due("the second choice", x.call(1, 6), 1);
        checks.due("the third choice, as b holds one back", x.call(2, 6), 2);
        checks.due("what is held back serves a first choice", x.call(3, 6), 1);
        checks.due("overflows of a", x.group(0, 3), 2);
        checks.due("overflows of b", x.group(1, 3), 1);
        checks.due("overflows of c", x.group(2, 3), 0);
        checks.due("over b as another choice", x.group(1, 5), 1);
        checks.due("over b in all", x.group(1, 4), 2);
        x.hang(3);
        Checks.dialled(x, 3, "9", 5);
        x.pass(3);
        checks.due("blocked", x.call(4, 4), 8);
        checks.due("blocked at", x.call(4, 8), 9);
        checks.due("each choice overflowed", x.group(0, 3) * 100 + x.group(1, 3) * 10 + x.group(2, 3), 321);
        checks.due("the register is free", x.register(0, 0), -1);
        checks.due("the marker is free", x.marker(0, 0), -1);
    }

    private static void completeDigits() {
        String setup = "exchange 1 1;work 1;line 12;line 3;group a 1 0;group b 1 0;route 1 3 a;route 12 4 b;"
            + "route 45 2 a;route 4 2 b;";
        ExchangeControl x = Checks.at(5, setup + "call 3 1234 9 1;");
        checks.due("a line's number is complete, what comes behind it is not dialled", x.call(0, 4), 5);
        checks.due("it talks with the line", x.call(0, 5), 0);
        x = Checks.at(5, setup + "call 3 1399 9 1;");
        checks.due("a route's length", x.call(0, 6), 0);
        checks.due("in as many ticks as digits", x.call(0, 7), 5);
        x = Checks.at(4, setup + "call 3 459 9 1;");
        checks.due("the longest prefix", x.call(0, 6), 0);
        x = Checks.at(4, setup + "call 3 469 9 1;");
        checks.due("the shorter prefix", x.call(0, 6), 1);
        x = Checks.at(9, setup + "call 12 3 9 1;");
        checks.due("one digit", x.call(0, 5), 1);
        x = Checks.at(9, "exchange 1 1;line 3;group a 1 0;group b 1 0;route 1 3 a;route 11 2 b;route 111 4 a;"
            + "timeout 9;call 3 113 9 1;");
        checks.due("complete at the second digit by the longer prefix", x.call(0, 6), 1);
        checks.due("talks from", x.call(0, 7), 5);
    }

    private static void waiting() {
        ExchangeControl x = Checks.at(3, "exchange 1 1;timeout 1;line 1;line 2;call 1 55 1 1;call 2 5 1 3;");
        checks.due("given up in the tick of the last digit", x.call(0, 4), 9);
        checks.due("given up at", x.call(0, 8), 3);
        checks.due("the register is taken in the same tick", x.register(0, 0), 1);
        checks.due("the line is free", x.line(0, 0), 0);
        x.rule(20, 3);
        x.pass(2);
        checks.due("waits", x.register(0, 2), 2);
        x.rule(20, 1);
        x.pass(1);
        checks.due("given up by a shorter timeout", x.call(1, 4), 9);
        checks.due("the time of it", x.call(1, 8), 6);
    }

    private static void queues() {
        ExchangeControl x = Checks.at(2, "exchange 3 2;work 3;line 1;line 2;line 3;line 4;line 5;group a 8 0;route 9 1 a;"
            + "call 5 9 1 1;call 4 9 1 1;call 3 9 1 1;call 2 9 1 1;call 1 9 1 1;");
        checks.due("marker 0 has the first", x.marker(0, 0), 0);
        checks.due("marker 1 has the second", x.marker(1, 0), 1);
        checks.due("work from the next tick on", x.marker(0, 1), 3);
        checks.due("the third waits with its register", x.call(2, 10), 2);
        checks.due("in its state", x.call(2, 4), 3);
        x.rule(21, 1);
        checks.due("markers go on", x.marker(1, 1), 3);
        x.pass(3);
        checks.due("the third has a marker", x.marker(0, 0), 2);
        checks.due("with the new work", x.marker(0, 1), 1);
        checks.due("the other marker is free", x.marker(1, 0), -1);
        checks.due("register 0 has the fourth", x.register(0, 0), 3);
        checks.due("register 1 has the fifth", x.register(1, 0), 4);
        checks.due("nobody waits", x.foremost(false), -1);
    }
}
