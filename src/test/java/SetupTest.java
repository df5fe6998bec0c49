/** Promises 1 to 4: a new object, append, load and errorOffset. */
final class SetupTest {
    private static final int SYNTAX = ExchangeControl.SYNTAX_ERROR;
    private static final int RANGE = ExchangeControl.OUT_OF_RANGE;
    private static final int NAME = ExchangeControl.NAME_ERROR;
    private static final int MANY = ExchangeControl.TOO_MANY;
    private static final Checks checks = new Checks();

    public static void main(String[] args) {
        newObject();
        append();
        load();
        loadAndBuffer();
        syntaxErrors();
        rangeErrors();
        nameErrors();
        tooMany();
        spaces();
        checks.end();
    }

    private static void newObject() {
        ExchangeControl x = new ExchangeControl();
        int[] want = {1, 1, 0, 0, 0, 0, 0, 0, 0, 0, 0, 0, 0, 0, 0, 0, 0, 0, 0, 40, 5, 2, 0, 0, 0};
        for (int what = 0; what <= 24; what++) {
            checks.due("new: state(" + what + ")", x.state(what), want[what]);
        }
        checks.due("new: errorOffset", x.errorOffset(), -1);
        checks.due("new: undo", x.undo(), -1);
        checks.dueThrow("new: load(1)", IllegalArgumentException.class, () -> x.load(1));
        checks.due("new: as by the text", x.checksum(), Checks.fresh("exchange 1 1;").checksum());
    }

    private static void append() {
        ExchangeControl x = new ExchangeControl();
        checks.due("append", x.append(0x65786368, 0x616e6765, 0x2034202b, -1, 0), 20);
        checks.due("bytes from the most significant one", x.load(12), SYNTAX);
        checks.due("the offset of the plus", x.errorOffset(), 11);
        for (int k = 1; k <= 35; k++) {
            checks.due("append " + k, x.append(0x31313131, 0, 0, 0, 0), 20 * k);
        }
        checks.due("append over 700", x.append(0x32323232, 0, 0, 0, 0), -1);
        checks.due("the buffer is unchanged", x.look(4, 0), -1);
        checks.due("its length too", x.load(700), SYNTAX);
    }

    private static void load() {
        ExchangeControl x = new ExchangeControl();
        String text = "exchange 4 3;line 012;line 12;group out 8 7;group line 1 0;route 0 1 out;"
            + "route 00001 6 line out;guard 7;timeout 20;work 9;call 012 123456 99 999;call 12 5 1 1;";
        checks.due("load", Checks.loaded(x, text), 2);
        int[] want = {4, 3, 2, 2, 2, 2, 0, 2};
        for (int what = 0; what < 8; what++) {
            checks.due("loaded: state(" + what + ")", x.state(what), want[what]);
        }
        checks.due("guard", x.state(19), 7);
        checks.due("timeout", x.state(20), 20);
        checks.due("work", x.state(21), 9);
        checks.due("line of call 0", x.call(0, 0), 0);
        checks.due("line of call 1", x.call(1, 0), 1);
        checks.due("digits", x.call(0, 1), 6);
        checks.due("talk", x.call(0, 2), 99);
        checks.due("time", x.call(0, 3), 999);
        checks.due("trunks", x.group(0, 0), 8);
        checks.due("held", x.group(0, 1), 7);
        x.pass(3);
        checks.due("load again", Checks.loaded(x, "exchange 2 1;line 1;"), 0);
        checks.due("all is replaced", x.checksum(), Checks.fresh("exchange 2 1;line 1;").checksum());
        checks.due("rules are told anew", Checks.loaded(x, "exchange 1 1;guard 1;timeout 1;work 1;"), 0);
        checks.due("and once more", Checks.loaded(x, "exchange 1 1;guard 2;timeout 2;work 2;"), 0);
        Checks.loaded(x, text);
        checks.due("older groups are not known", Checks.loaded(x, "exchange 1 1;route 1 1 out;"), NAME);
        Checks.loaded(x, text);
        checks.due("older lines neither", Checks.loaded(x, "exchange 1 1;call 012 1 1 1;"), NAME);
        Checks.loaded(x, text);
        checks.due("older prefixes don't count",
            Checks.loaded(x, "exchange 1 1;group a 1 0;route 0 1 a;route 00001 5 a;"), 0);
        Checks.loaded(x, "exchange 1 1;group a 1 0;");
        Checks.put(x, "0");
        checks.due("no route is left", x.look(1, 1), -1);
    }

    private static void loadAndBuffer() {
        ExchangeControl x = Checks.at(2, "exchange 1 1;line 1;call 1 1 1 1;");
        long before = x.checksum();
        Checks.put(x, "123");
        checks.dueThrow("load(-1)", IllegalArgumentException.class, () -> x.load(-1));
        checks.dueThrow("load(21)", IllegalArgumentException.class, () -> x.load(21));
        checks.due("no offset of a load that threw", x.errorOffset(), -1);
        checks.due("the buffer is unchanged", x.look(3, 0), -1);
        checks.due("load(0)", x.load(0), SYNTAX);
        checks.due("offset of it", x.errorOffset(), 0);
        checks.dueThrow("the buffer is empty", IllegalArgumentException.class, () -> x.look(1, 0));
        checks.dueThrow("load(1)", IllegalArgumentException.class, () -> x.load(1));
        checks.due("the offset stays", x.errorOffset(), 0);
        checks.due("other data are unchanged", x.checksum(), before);
        checks.due("an error is no change", x.undo(), 1);
        Checks.put(x, "exchange 1 1;line 5;");
        checks.due("the first bytes alone", x.load(13), 0);
        checks.due("no lines", x.state(2), 0);
        checks.due("no error", x.errorOffset(), -1);
        checks.dueThrow("the buffer is empty again", IllegalArgumentException.class, () -> x.look(1, 0));
    }

    /** A text in which the first error is at the sign behind the bar. */
    private static void wrong(int code, String marked) {
        checks.wrongText(code, marked);
    }

    private static void syntaxErrors() {
        wrong(SYNTAX, "|");
        wrong(SYNTAX, "   |");
        wrong(SYNTAX, "|exchang 1 1;");
        wrong(SYNTAX, "|exchanges 1 1;");
        wrong(SYNTAX, "|Exchange 1 1;");
        wrong(SYNTAX, "|axchange 1 1;");
        wrong(SYNTAX, "exchange 1 1;|mine 1;");
        wrong(SYNTAX, "exchange 1 1;|ball 1 1 1 1;");
        wrong(SYNTAX, "|line 1;");
        wrong(SYNTAX, "exchange|");
        wrong(SYNTAX, "exchange |;");
        wrong(SYNTAX, "exchange 1|;");
        wrong(SYNTAX, "exchange 1 1|");
        wrong(SYNTAX, "exchange 1 1  |");
        wrong(SYNTAX, "exchange 1 |x;");
        wrong(SYNTAX, "exchange 1 |-1;");
        wrong(SYNTAX, "exchange 1 1 |1;");
        wrong(SYNTAX, "exchange 1 1;|;");
        wrong(SYNTAX, "exchange 1 1;|1;");
        wrong(SYNTAX, "exchange 1 1;|lines 1;");
        wrong(SYNTAX, "exchange 1 1;|exchange 1 1;");
        wrong(SYNTAX, "exchange 1 1;|\n");
        wrong(SYNTAX, "exchange 1 1;|\u0000");
        wrong(SYNTAX, "exchange 1 1;line |\u00e9;");
        wrong(SYNTAX, "exchange 1 1;line |a;");
        wrong(SYNTAX, "exchange 1 1;line 1|");
        wrong(SYNTAX, "exchange 1 1;line 1 |2;");
        wrong(SYNTAX, "exchange 1 1;group |1 1 0;");
        wrong(SYNTAX, "exchange 1 1;group a|;");
        wrong(SYNTAX, "exchange 1 1;group a 1|;");
        wrong(SYNTAX, "exchange 1 1;group a 1 0 |b;");
        wrong(SYNTAX, "exchange 1 1;group a 1 0;route |a 1 a;");
        wrong(SYNTAX, "exchange 1 1;group a 1 0;route 1 |a;");
        wrong(SYNTAX, "exchange 1 1;group a 1 0;route 1 1|;");
        wrong(SYNTAX, "exchange 1 1;group a 1 0;route 1 1 a |1;");
        wrong(SYNTAX, "exchange 1 1;group a 1 0;group b 1 0;group c 1 0;route 1 1 a b c |a;");
        wrong(SYNTAX, "exchange 1 1;group a 1 0;group b 1 0;group c 1 0;route 1 1 a b c |abcdefghi;");
        wrong(SYNTAX, "exchange 1 1;line 1;call |a 1 1 1;");
        wrong(SYNTAX, "exchange 1 1;line 1;call 1 |a 1 1;");
        wrong(SYNTAX, "exchange 1 1;line 1;call 1 1|;");
        wrong(SYNTAX, "exchange 1 1;line 1;call 1 1 1|;");
        wrong(SYNTAX, "exchange 1 1;line 1;call 1 1 1 1 |1;");
        wrong(SYNTAX, "exchange 1 1;guard|;");
        wrong(SYNTAX, "exchange 1 1;guard 1;|guard 1;");
        wrong(SYNTAX, "exchange 1 1;timeout 1;guard 1;|timeout 1;");
        wrong(SYNTAX, "exchange 1 1;work 1;timeout 1;|work x;");
    }

    private static void rangeErrors() {
        wrong(RANGE, "exchange |0 1;");
        wrong(RANGE, "exchange |5 1;");
        wrong(RANGE, "exchange 1 |0;");
        wrong(RANGE, "exchange 1 |4;");
        wrong(RANGE, "exchange |18446744073709551617 1;");
        wrong(RANGE, "exchange 1 |4294967297 x");
        wrong(RANGE, "exchange 1 1;line |1234567;");
        wrong(RANGE, "exchange 1 1;line |0000001;");
        wrong(RANGE, "exchange 1 1;group |abcdefghi 1 0;");
        wrong(RANGE, "exchange 1 1;group a |0 0;");
        wrong(RANGE, "exchange 1 1;group a |9 0;");
        wrong(RANGE, "exchange 1 1;group a 3 |3;");
        wrong(RANGE, "exchange 1 1;group a 1 0;route |123456 6 a;");
        wrong(RANGE, "exchange 1 1;group a 1 0;route 12 |1 a;");
        wrong(RANGE, "exchange 1 1;group a 1 0;route 1 |0 a;");
        wrong(RANGE, "exchange 1 1;group a 1 0;route 1 |7 a;");
        wrong(RANGE, "exchange 1 1;group a 1 0;route 1 1 |abcdefghi;");
        wrong(RANGE, "exchange 1 1;line 1;call 1 |1234567 1 1;");
        wrong(RANGE, "exchange 1 1;line 1;call 1 1 |0 1;");
        wrong(RANGE, "exchange 1 1;line 1;call 1 1 |100 1;");
        wrong(RANGE, "exchange 1 1;line 1;call 1 1 1 |0;");
        wrong(RANGE, "exchange 1 1;line 1;call 1 1 1 |1000;");
        wrong(RANGE, "exchange 1 1;guard |0;");
        wrong(RANGE, "exchange 1 1;guard |41;");
        wrong(RANGE, "exchange 1 1;timeout |0;");
        wrong(RANGE, "exchange 1 1;timeout |21;");
        wrong(RANGE, "exchange 1 1;work |0;");
        wrong(RANGE, "exchange 1 1;work |10;");
        ExchangeControl x = Checks.fresh("exchange 0000000000000000000004 003;guard 0040;");
        checks.due("leading zeros do not matter", x.state(0) * 1000 + x.state(1) * 100 + x.state(19), 4340);
    }

    private static void nameErrors() {
        wrong(NAME, "exchange 1 1;line 1;line |1;");
        wrong(NAME, "exchange 1 1;group a 1 0;group |a 1 0;");
        wrong(NAME, "exchange 1 1;group abcdefgh 1 0;group abcdefgi 1 0;group |abcdefgh 9 0;");
        wrong(NAME, "exchange 1 1;group a 1 0;route 1 1 |b;");
        wrong(NAME, "exchange 1 1;group a 1 0;group b 1 0;route 1 1 |ab;");
        wrong(NAME, "exchange 1 1;group ab 1 0;route 1 1 |ba;");
        wrong(NAME, "exchange 1 1;group az 1 0;route 1 1 |bz;");
        wrong(NAME, "exchange 1 1;group aa 1 0;route 1 1 |a;");
        wrong(NAME, "exchange 1 1;group a 1 0;route 1 1 a |a;");
        wrong(NAME, "exchange 1 1;group a 1 0;route 1 1 |b;group b 1 0;");
        wrong(NAME, "exchange 1 1;group a 1 0;route 1 1 a;route |1 9 a;");
        wrong(NAME, "exchange 1 1;line 1;call |2 1 1 1;");
        wrong(NAME, "exchange 1 1;line 1;call |01 1 1 1;");
        wrong(NAME, "exchange 1 1;line 1;call |1234567 1 1 1;");
        wrong(NAME, "exchange 1 1;call |1 1 1 1;line 1;");
        ExchangeControl x = Checks.fresh("exchange 1 1;line 1;line 01;line 001;group a 1 0;route 1 1 a;route 01 2 a;");
        checks.due("leading zeros matter in lines", x.state(2), 3);
        checks.due("leading zeros matter in prefixes", x.state(4), 2);
    }

    private static String times(int count, String format) {
        return Checks.times(count, format);
    }

    private static void tooMany() {
        wrong(MANY, "exchange 1 1;" + times(12, "line %d;") + "|line 0;");
        wrong(MANY, "exchange 1 1;" + times(12, "line %d;") + "|line;");
        wrong(SYNTAX, "exchange 1 1;" + times(12, "line %d;") + "|lines 0;");
        wrong(MANY, "exchange 1 1;group a1 0;group b1 0;group c1 0;group d1 0;group e1 0;|group f1 0;");
        wrong(MANY, "exchange 1 1;group a 1 0;" + times(8, "route %d 1 a;") + "|route 8 1 a;");
        wrong(MANY, "exchange 1 1;line 1;" + times(40, "call1 1 1 1;") + "|call 1 1 1 1;");
        ExchangeControl x = Checks.fresh("exchange 1 1;line 1;" + times(40, "call1 %d 1 1;"));
        checks.due("40 calls", x.state(5), 40);
        x = Checks.fresh("exchange 1 1;" + times(12, "line %d;") + "group a1 0;group b1 0;group c1 0;group d1 0;group e1 0;"
            + times(8, "route %d 1 e;"));
        checks.due("12 lines", x.state(2), 12);
        checks.due("5 groups", x.state(3), 5);
        checks.due("8 routes", x.state(4), 8);
    }

    private static void spaces() {
        ExchangeControl x = new ExchangeControl();
        checks.due("many spaces", Checks.loaded(x, "  exchange  1   1 ; line   1 ;call 1 1 1 1 ;  "), 1);
        checks.due("few spaces", Checks.loaded(x, "exchange1 1;line1;group a1 0;route1 1a;call1 1 1 1;"), 1);
        String names = "exchange1 1;group exchange 1 0;group route 1 0;group call 1 0;route 1 1 call route exchange;";
        checks.due("names like words", Checks.loaded(x, names), 0);
        wrong(SYNTAX, "|exchangeline1 1;");
        wrong(SYNTAX, "exchange 1 2 |3;");
        wrong(SYNTAX, "exchange 3|;");
        wrong(RANGE, "exchange |11;");
    }
}
