/** The bounds of the input buffer, of the tokens of a setup text, and of the first error in it. */
final class TokenBoundsTest {
    private static final int SYNTAX = ExchangeControl.SYNTAX_ERROR;
    private static final int RANGE = ExchangeControl.OUT_OF_RANGE;
    private static final int NAME = ExchangeControl.NAME_ERROR;
    private static final int MANY = ExchangeControl.TOO_MANY;
    private static final String ONE_OF_EACH = "exchange 1 1;line 1;group a 1 0;";
    private static final String ALL_KINDS = "exchange 2 3;line 07;line 5;group a 2 1;group bc 3 0;route 0 4 bc a;"
        + "call 07 5123 10 8;guard 3;timeout 6;work 4;";
    private static final Checks checks = new Checks();

    public static void main(String[] args) {
        append();
        bytesOfWords();
        wholeBuffer();
        lengthOfLoad();
        loadEmpties();
        errorLeavesData();
        noOlderData();
        errorOffset();
        everySign();
        spaces();
        endsTooEarly();
        sameOffset();
        smallestOffset();
        everyByte();
        checks.end();
    }

    private static void wrong(int code, String marked) {
        checks.wrongText(code, marked);
    }

    private static int loaded(String text) {
        return Checks.loaded(new ExchangeControl(), text);
    }

    private static void append() {
        ExchangeControl x = new ExchangeControl();
        checks.dueThrow("a new object's buffer is empty", IllegalArgumentException.class, () -> x.load(1));
        for (int length = 20; length <= 700; length += 20) {
            checks.due("append", x.append(0x31323334, 0x31323334, 0x31323334, 0x31323334, 0x31323334), length);
        }
        for (int times = 0; times < 3; times++) {
            checks.due("append to a full buffer", x.append(0x39393939, -1, 0, 1, 2), -1);
            checks.due("it is unchanged", x.look(6, 0), -1);
        }
        checks.dueThrow("its length too", IllegalArgumentException.class, () -> x.load(701));
        checks.due("it is no setup text", x.load(700), SYNTAX);
        checks.due("append to an emptied buffer", x.append(0, 0, 0, 0, 0), 20);
        ExchangeControl y = new ExchangeControl();
        Checks.put(y, "exchange 1 1;" + " ".repeat(686) + "?");
        checks.due("700 bytes", y.append(0x20202020, 0x20202020, 0x20202020, 0x20202020, 0x20202020), -1);
        checks.due("the last byte is there", y.load(700), SYNTAX);
        checks.due("at its place", y.errorOffset(), 699);
    }

    /** Of each argument the most significant byte first, also of those that are negative. */
    private static void bytesOfWords() {
        ExchangeControl x = new ExchangeControl();
        x.append(0x65786368, 0x616e6765, 0x20322033, 0x3b6c696e, 0x6520373b);
        checks.due("exchange 2 3;line 7;", x.load(20), 0);
        checks.due("2 registers", x.state(0), 2);
        checks.due("3 markers", x.state(1), 3);
        checks.due("a line", x.state(2), 1);
        String text = "exchange 1 1;line 1;";
        for (int k = 0; k < 20; k++) {
            for (int sign : new int[] {0, 127, 128, 255}) {
                ExchangeControl y = new ExchangeControl();
                Checks.put(y, text.substring(0, k) + (char) sign + text.substring(k + 1));
                checks.due("byte " + sign + " at " + k, y.load(20), SYNTAX);
                int first = k < 8 ? 0 : k < 9 ? 8 : k > 13 && k < 17 ? 13 : k;
                checks.due("offset of byte " + sign + " at " + k, y.errorOffset(), first);
            }
        }
    }

    private static void wholeBuffer() {
        String calls = Checks.times(40, "call 1 12 1 1;");
        String text = "exchange 1 1;line 1;line 12;" + " ".repeat(111) + calls;
        checks.due("a text of 699 bytes", text.length(), 699);
        checks.due("is read", loaded(text), 40);
        checks.due("700 bytes, the last a space", loaded(text + " "), 40);
        checks.due("700 bytes, the first a space", loaded(" " + text), 40);
        wrong(SYNTAX, text + "|;");
        wrong(SYNTAX, " " + text.substring(0, 698) + "|");
        wrong(SYNTAX, "  " + text.substring(0, 698) + "|");
        wrong(SYNTAX, " ".repeat(700) + "|");
        wrong(RANGE, "exchange 1 |" + "9".repeat(689));
        wrong(SYNTAX, "exchange 1 " + "0".repeat(687) + "1|");
        checks.due("a number up to the end of the buffer", loaded("exchange 1 " + "0".repeat(687) + "1;"), 0);
    }

    private static void lengthOfLoad() {
        Checks.Maker maker = () -> EveryState.with(ALL_KINDS);
        int filled = (ALL_KINDS.length() + 19) / 20 * 20;
        for (int length : new int[] {-1, -2, filled + 1, filled + 20, 701, Integer.MIN_VALUE, Integer.MAX_VALUE}) {
            checks.refused("load(" + length + ")", IllegalArgumentException.class, maker, x -> x.load(length));
        }
        for (int length : new int[] {-1, 1, 20, Integer.MIN_VALUE, Integer.MAX_VALUE}) {
            checks.refused("load(" + length + ") of nothing", IllegalArgumentException.class, EveryState::made,
                x -> x.load(length));
            checks.refused("load(" + length + ") on a new object", IllegalArgumentException.class, ExchangeControl::new,
                x -> x.load(length));
        }
        checks.due("load(0) with a buffer", maker.made().load(0), SYNTAX);
        checks.due("load(0) with none", EveryState.made().load(0), SYNTAX);
        checks.due("load of all", maker.made().load(filled), 1);
        for (int length = 0; length <= ALL_KINDS.length(); length++) {
            ExchangeControl x = maker.made();
            boolean whole = length > 0 && ALL_KINDS.charAt(length - 1) == ';';
            int calls = length >= ALL_KINDS.indexOf("guard") ? 1 : 0;
            checks.due("load(" + length + ")", Math.max(x.load(length), -1), whole ? calls : -1);
            checks.due("error of load(" + length + ")", x.errorOffset() < 0 ? 0 : 1, whole ? 0 : 1);
        }
    }

    /** The buffer is empty after each load that did not throw. */
    private static void loadEmpties() {
        for (String text : new String[] {"exchange 1 1;", "exchange 9 9;", "1", "12345678901234567890", " "}) {
            ExchangeControl x = new ExchangeControl();
            Checks.put(x, text + " ".repeat(640));
            x.load(text.length());
            checks.dueThrow("look after " + text, IllegalArgumentException.class, () -> x.look(1, 0));
            checks.dueThrow("load after " + text, IllegalArgumentException.class, () -> x.load(1));
            checks.due("load of nothing after " + text, x.load(0), SYNTAX);
            checks.due("append after " + text, x.append(0x31202020, 0, 0, 0, 0), 20);
            checks.dueThrow("no older byte", IllegalArgumentException.class, () -> x.look(2, 0));
        }
    }

    /** An error leaves all data but the buffer and the offset as they were, and is no change. */
    private static void errorLeavesData() {
        for (String text : new String[] {"?", "exchange 4 3;?", "exchange 4 3;line 9;group z 8 7;route 1 6 z;guard 9;?",
            "exchange 1 1;line 1;line 1;", "exchange 4 4;", FullHouse.TEXT + "line 77;"}) {
            ExchangeControl x = EveryState.made();
            ExchangeControl twin = EveryState.made();
            checks.due("an error in " + text, Checks.loaded(x, text) < 0 ? 1 : 0, 1);
            // the twin's error is at 0; so is the last one of the other
            x.load(0);
            twin.load(0);
            checks.alike("after " + text, x, twin);
            ExchangeControl y = new ExchangeControl();
            Checks.loaded(y, text);
            checks.due("before the first load all is as by exchange 1 1;", y.checksum(), new ExchangeControl().checksum());
            checks.due("nothing to undo", y.undo(), -1);
        }
    }

    /** What an earlier text told, whether it had an error or not, is not known to a later one, nor told already. */
    private static void noOlderData() {
        for (String error : new String[] {"", "?"}) {
            ExchangeControl x = new ExchangeControl();
            Checks.loaded(x, FullHouse.TEXT + Checks.times(38, "call0 8 1 1;") + error);
            checks.due("a line is not known", Checks.loaded(x, "exchange 1 1;call 0 8 1 1;"), NAME);
            checks.due("nor a group", Checks.loaded(x, "exchange 1 1;route 0 6 e;"), NAME);
            checks.due("a line can be told", Checks.loaded(x, "exchange 1 1;line 5;line 0;"), 0);
            checks.due("two lines", x.state(2), 2);
            checks.due("as many as there may be", Checks.loaded(x, FullHouse.TEXT + Checks.times(38, "call0 8 1 1;")), 38);
            checks.due("few", Checks.loaded(x, "exchange 1 1;line 7;group e 1 0;route 7 2 e;"), 0);
            checks.alike("as for the first time", withOlderFinal(x), withOlderFinal(Checks.fresh("exchange 1 1;line 7;group e 1 0;route 7 2 e;")));
            for (String row : new String[] {"0", "1", "6", "00", "01"}) {
                Checks.put(x, row);
                checks.due("no line " + row, x.look(row.length(), 0), -1);
                checks.due("no route " + row, x.look(row.length(), 1), -1);
                x.load(0);
            }
        }
    }

    /** Makes all its changes final, so that what is told now is all that can be told. */
    private static ExchangeControl withOlderFinal(ExchangeControl x) {
        for (int times = 0; times < 8; times++) {
            x.rule(20, 5);
        }
        return x;
    }

    private static void errorOffset() {
        ExchangeControl x = new ExchangeControl();
        checks.due("no load yet", x.errorOffset(), -1);
        Checks.put(x, "exchange 1 1;x");
        checks.dueThrow("load(21)", IllegalArgumentException.class, () -> x.load(21));
        checks.due("none that did not throw", x.errorOffset(), -1);
        checks.due("one with an error", x.load(20), SYNTAX);
        checks.due("its offset", x.errorOffset(), 13);
        checks.dueThrow("load(1)", IllegalArgumentException.class, () -> x.load(1));
        checks.dueThrow("load(-1)", IllegalArgumentException.class, () -> x.load(-1));
        checks.due("the offset stays when load throws", x.errorOffset(), 13);
        x.pass(1);
        Checks.put(x, "1 ");
        checks.due("no line to dial", x.state(2), 0);
        x.undo();
        checks.due("it stays when time passes and is taken back", x.errorOffset(), 13);
        checks.due("one without", x.load(0), SYNTAX);
        checks.due("an offset of 0 is an offset", x.errorOffset(), 0);
        checks.due("one that succeeds", Checks.loaded(x, "exchange 1 1;"), 0);
        checks.due("none", x.errorOffset(), -1);
        x.undo();
        checks.due("undo leaves it", x.errorOffset(), -1);
    }

    private static boolean isDigit(int sign) {
        return sign >= '0' && sign <= '9';
    }

    private static boolean isLetter(int sign) {
        return sign >= 'a' && sign <= 'z';
    }

    /** The text is read if its offset is -1. */
    private static void reads(String text, int code, int offset) {
        ExchangeControl x = new ExchangeControl();
        int answer = Checks.loaded(x, text);
        checks.due("load of " + text, Math.min(answer, 0), offset < 0 ? 0 : code);
        checks.due("offset in " + text, x.errorOffset(), offset);
    }

    /** Each of the 256 bytes before, behind and within tokens. */
    private static void everySign() {
        for (int sign = 0; sign <= 255; sign++) {
            String s = "" + (char) sign;
            boolean space = sign == ' ';
            reads(s + "exchange 1 1;", SYNTAX, space ? -1 : 0);
            reads("exchange 1 1;" + s, SYNTAX, space ? -1 : 13);
            reads("exchange 1 1;" + s + "line 1;", SYNTAX, space ? -1 : 13);
            reads("exchange" + s + "1 1;", isDigit(sign) ? RANGE : SYNTAX,
                space || sign == '0' ? -1 : isLetter(sign) ? 0 : 8);
            reads("exchange 1" + s + "1;", isDigit(sign) ? RANGE : SYNTAX, space ? -1 : isDigit(sign) ? 9 : 10);
            reads("exchange 1 1" + s + ";", isDigit(sign) ? RANGE : SYNTAX,
                space ? -1 : isDigit(sign) ? 11 : sign == ';' ? 13 : 12);
            reads("exchange 1 1;line 1" + s + ";", SYNTAX, space || isDigit(sign) ? -1 : sign == ';' ? 20 : 19);
            reads("exchange 1 1;line " + s + ";", SYNTAX, isDigit(sign) ? -1 : space ? 19 : 18);
            reads("exchange 1 1;group a" + s + "1 0;", isDigit(sign) ? RANGE : SYNTAX,
                space || isLetter(sign) || sign == '0' ? -1 : 20);
            reads("exchange 1 1;group " + s + " 1 0;", SYNTAX, isLetter(sign) ? -1 : space ? 21 : 19);
        }
    }

    private static void spaces() {
        String[] tokens = {"exchange", "2", "3", ";", "line", "07", ";", "group", "bc", "3", "0", ";", "route", "0", "4",
            "bc", ";", "call", "07", "512", "10", "8", ";", "guard", "3", ";", "timeout", "6", ";", "work", "4", ";"};
        StringBuilder wide = new StringBuilder();
        StringBuilder narrow = new StringBuilder();
        String last = ";";
        for (String token : tokens) {
            boolean digits = isDigit(token.charAt(0)) && isDigit(last.charAt(0));
            boolean words = isLetter(token.charAt(0)) && isLetter(last.charAt(0));
            narrow.append(digits || words ? " " : "").append(token);
            wide.append("       ").append(token);
            last = token;
        }
        ExchangeControl x = Checks.fresh(wide + "      ");
        ExchangeControl y = Checks.fresh(narrow.toString());
        checks.due("spaces do not matter", x.checksum(), y.checksum());
        checks.due("a call", y.state(5), 1);
        wrong(SYNTAX, "|exchangeexchange 1 1;");
        wrong(RANGE, "exchange |12;");
        wrong(SYNTAX, "exchange 2|;");
        wrong(SYNTAX, ONE_OF_EACH + "|groupb 1 0;");
        wrong(SYNTAX, ONE_OF_EACH + "group b 1|;");
        wrong(RANGE, ONE_OF_EACH + "group b |10;");
        wrong(NAME, ONE_OF_EACH + "call |11 1 1;");
    }

    /** A text that ends behind any of its tokens but the last has an error at its length. */
    private static void endsTooEarly() {
        String[][] statements = {{"line", "2", ";"}, {"group", "b", "1", "0", ";"}, {"route", "1", "1", "a", ";"},
            {"call", "1", "1", "1", "1", ";"}, {"guard", "1", ";"}, {"timeout", "1", ";"}, {"work", "1", ";"}};
        for (String[] statement : statements) {
            ends(ONE_OF_EACH, statement);
        }
        ends("", new String[] {"exchange", "1", "1", ";"});
        wrong(SYNTAX, "|");
        wrong(SYNTAX, " |");
        checks.due("one statement is enough", loaded("exchange 1 1;"), 0);
    }

    private static void ends(String before, String[] tokens) {
        StringBuilder text = new StringBuilder(before);
        for (int k = 0; k < tokens.length - 1; k++) {
            text.append(k == 0 ? "" : " ").append(tokens[k]);
            wrong(SYNTAX, text + "|");
            wrong(SYNTAX, text + " |");
            wrong(SYNTAX, text + "     |");
        }
        checks.due("load of " + text + ";", Math.min(loaded(text + ";"), 0), 0);
        checks.due("load of " + text + "; ", Math.min(loaded(text + ";  "), 0), 0);
    }

    /** Of several kinds at the same offset, the first in the list of kinds. */
    private static void sameOffset() {
        String groups = "exchange 1 1;group a 1 0;group b 1 0;group c 1 0;group d 1 0;route 1 1 a b c ";
        wrong(SYNTAX, groups + "|abcdefghi;");
        wrong(SYNTAX, groups + "|zz;");
        wrong(SYNTAX, groups + "|a;");
        wrong(SYNTAX, groups + "|99999999;");
        wrong(SYNTAX, "exchange 1 1 |99;");
        wrong(SYNTAX, "exchange |abcdefghi 1;");
        wrong(SYNTAX, ONE_OF_EACH + "line |abcdefghi;");
        wrong(SYNTAX, ONE_OF_EACH + "line 2 |1;");
        wrong(SYNTAX, ONE_OF_EACH + "line 2 |1234567;");
        wrong(SYNTAX, ONE_OF_EACH + "group |1234567 1 0;");
        wrong(SYNTAX, ONE_OF_EACH + "group b |abcdefghi 0;");
        wrong(SYNTAX, ONE_OF_EACH + "route 1 1 |0;");
        wrong(SYNTAX, ONE_OF_EACH + "call |a 1 1 1;");
        wrong(SYNTAX, ONE_OF_EACH + "guard 1;|guard 0;");
        wrong(RANGE, "exchange 1 1;group abcdefgh 1 0;group |abcdefghi 1 0;");
        wrong(RANGE, "exchange 1 1;group abcdefgh 1 0;route 1 1 |abcdefghi;");
        wrong(RANGE, "exchange 1 1;group abcdefgh 1 0;route 1 1 abcdefgh |abcdefghabcdefgh;");
        wrong(RANGE, "exchange 1 1;line 123456;line |1234567;");
        wrong(RANGE, "exchange 1 1;line 123456;line |0123456;");
        wrong(RANGE, "exchange 1 1;group a 1 0;route 12345 6 a;route |123456 6 a;");
        String lines = "exchange 1 1;" + Checks.times(11, "line %02d;");
        wrong(SYNTAX, lines + "line 55 |line 56;");
        wrong(MANY, lines + "line 55;|line 00;");
        wrong(MANY, lines + "line 55;|line 1234567;");
        wrong(MANY, lines + "line 55;|line x");
    }

    /** Of two statements with an error each, the first one's counts, whatever kinds they are. */
    private static void smallestOffset() {
        String before = "exchange 1 1;line 1;group a 1 0;route 1 1 a;work 1;group b 1 0;group c 1 0;group d 1 0;group e 1 0;";
        String[] bad = {"|lines 2;", "line |x;", "line |1;", "line |1234567;", "|group f 1 0;", "route |1 1 a;",
            "route 2 |7 a;", "route 2 2 |f;", "route 2 2 |abcdefghi;", "route 2 2|;", "call |2 1 1 1;", "call 1 |1234567 1 1;",
            "call 1 1 |100 1;", "call 1 1 1 |0;", "call 1 1 1 1 |1;", "guard |41;", "|work 1;", "|;", "|7;"};
        int[] code = {SYNTAX, SYNTAX, NAME, RANGE, MANY, NAME, RANGE, NAME, RANGE, SYNTAX, NAME, RANGE, RANGE, RANGE, SYNTAX,
            RANGE, SYNTAX, SYNTAX, SYNTAX};
        for (int first = 0; first < bad.length; first++) {
            wrong(code[first], before + bad[first]);
            for (String second : bad) {
                wrong(code[first], before + bad[first] + second.replace("|", ""));
                wrong(code[first], before + bad[first] + "guard 2;" + second.replace("|", ""));
            }
        }
        wrong(RANGE, "exchange |0 0 0");
        wrong(RANGE, "exchange 1 |0 0");
        wrong(NAME, ONE_OF_EACH + "group |a 0 9;");
        wrong(RANGE, ONE_OF_EACH + "group b |0 9;");
        wrong(RANGE, ONE_OF_EACH + "group b |9 9;");
        wrong(NAME, ONE_OF_EACH + "route 1 1 a;route |1 0 b b b b;");
        wrong(RANGE, ONE_OF_EACH + "route 1 |0 b b b b;");
        wrong(NAME, ONE_OF_EACH + "route 1 1 |b b b b;");
        wrong(NAME, ONE_OF_EACH + "call |2 1234567 0 0 0;");
        wrong(RANGE, ONE_OF_EACH + "call 1 |1234567 0 0 0;");
        wrong(RANGE, ONE_OF_EACH + "call 1 1 |0 0 0;");
        wrong(RANGE, ONE_OF_EACH + "call 1 1 1 |0 0;");
    }

    /** Each text that differs from one of all kinds in one byte, or ends early, read by the model too. */
    private static void everyByte() {
        String signs = "0189 ;acegkz?";
        for (int at = 0; at <= ALL_KINDS.length(); at++) {
            asTheModel(ALL_KINDS.substring(0, at));
            for (int k = 0; k < signs.length(); k++) {
                asTheModel(ALL_KINDS.substring(0, at) + signs.charAt(k) + ALL_KINDS.substring(at));
                if (at < ALL_KINDS.length()) {
                    asTheModel(ALL_KINDS.substring(0, at) + signs.charAt(k) + ALL_KINDS.substring(at + 1));
                }
            }
            if (at < ALL_KINDS.length()) {
                asTheModel(ALL_KINDS.substring(0, at) + ALL_KINDS.substring(at + 1));
            }
        }
    }

    private static void asTheModel(String text) {
        ModelSetup reader = new ModelSetup();
        Model told = ModelSetup.of(text, reader);
        ExchangeControl x = new ExchangeControl();
        checks.due("load of " + text, Checks.loaded(x, text), told == null ? reader.code : told.calls.size());
        checks.due("offset in " + text, x.errorOffset(), reader.offset);
        checks.due("checksum of " + text, x.checksum(), told == null ? new Model(1, 1).checksum() : told.checksum());
    }
}
