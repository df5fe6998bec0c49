/** The bounds of a setup text: numbers, digits, names, how many of each, and which error counts. */
final class TextBoundsTest {
    private static final int SYNTAX = ExchangeControl.SYNTAX_ERROR;
    private static final int RANGE = ExchangeControl.OUT_OF_RANGE;
    private static final int NAME = ExchangeControl.NAME_ERROR;
    private static final int MANY = ExchangeControl.TOO_MANY;
    private static final String ONE_OF_EACH = "exchange 1 1;line 1;group a 1 0;";
    private static final Checks checks = new Checks();

    interface Told {
        int of(ExchangeControl x);
    }

    public static void main(String[] args) {
        numbers();
        heldAndLength();
        longNumbers();
        digits();
        firstDigitsOfCall();
        names();
        namesInRoute();
        allLettersCount();
        wordsAsNames();
        counts();
        namesOfRoute();
        rulesOnce();
        unknownWords();
        checks.end();
    }

    private static void wrong(int code, String marked) {
        checks.wrongText(code, marked);
    }

    private static ExchangeControl read(String text) {
        ExchangeControl x = new ExchangeControl();
        checks.due(text + " has an error", Checks.loaded(x, text) < 0 ? 1 : 0, 0);
        checks.due("errorOffset of " + text, x.errorOffset(), -1);
        return x;
    }

    /** Each number from least to most, and no other, is allowed in place of the N. */
    private static void within(String text, int least, int most, Told told) {
        for (int n = 0; n <= 1100; n++) {
            if (n >= least && n <= most) {
                checks.due(text + " of " + n, told.of(read(text.replace("N", "" + n))), n);
            } else {
                wrong(RANGE, text.replace("N", "|" + n));
            }
        }
    }

    private static void numbers() {
        within("exchange N 1;", 1, 4, x -> x.state(0));
        within("exchange 1 N;", 1, 3, x -> x.state(1));
        within("exchange 1 1;group a N 0;", 1, 8, x -> x.group(0, 0));
        within("exchange 1 1;line 1;call 1 1 N 1;", 1, 99, x -> x.call(0, 2));
        within("exchange 1 1;line 1;call 1 1 1 N;", 1, 999, x -> x.call(0, 3));
        within("exchange 1 1;guard N;", 1, 40, x -> x.state(19));
        within("exchange 1 1;timeout N;", 1, 20, x -> x.state(20));
        within("exchange 1 1;work N;", 1, 9, x -> x.state(21));
    }

    /** The number of digits from which a row that begins with a prefix is complete. */
    private static int completeAt(ExchangeControl x, String prefix) {
        int at = -1;
        Checks.put(x, prefix + "111111".substring(prefix.length()));
        for (int length = 1; length <= 6; length++) {
            if (x.look(length, 2) == 1) {
                checks.due("one length alone is complete", at, -1);
                at = length;
            }
        }
        return at;
    }

    private static void heldAndLength() {
        for (int trunks = 1; trunks <= 8; trunks++) {
            within("exchange 1 1;group a " + trunks + " N;", 0, trunks - 1, x -> x.group(0, 1));
        }
        for (int length = 1; length <= 5; length++) {
            String prefix = "00000".substring(0, length);
            within("exchange 1 1;group a 1 0;route " + prefix + " N a;", length, 6, x -> completeAt(x, prefix));
        }
    }

    /** A number of any length: leading zeros do not matter, and none is small again because it is too great. */
    private static void longNumbers() {
        String zeros = "0".repeat(500);
        String[] places = {"exchange N 1;", "exchange 1 N;", "exchange 1 1;group a N 0;", "exchange 1 1;guard N;",
            "exchange 1 1;timeout N;", "exchange 1 1;work N;", ONE_OF_EACH + "call 1 1 N 1;",
            ONE_OF_EACH + "call 1 1 1 N;", ONE_OF_EACH + "route 1 N a;"};
        for (String place : places) {
            read(place.replace("N", "01"));
            read(place.replace("N", zeros + "1"));
            wrong(RANGE, place.replace("N", "|" + zeros));
            wrong(RANGE, place.replace("N", "|" + zeros + "1000"));
            wrong(RANGE, place.replace("N", "|10" + zeros));
            wrong(RANGE, place.replace("N", "|" + "9".repeat(500)));
            for (String round : new String[] {"65537", "2147483649", "4294967297", "9223372036854775809",
                "18446744073709551617", "340282366920938463463374607431768211457"}) {
                wrong(RANGE, place.replace("N", "|" + round));
            }
        }
        checks.due("none held, in many zeros", read("exchange 1 1;group a 1 " + zeros + ";").group(0, 1), 0);
        wrong(RANGE, "exchange 1 1;group a 1 |4294967296;");
    }

    /** Rows of digits up to the greatest length are told as they are; longer ones are out of range. */
    private static void digits() {
        for (int length = 1; length <= 20; length++) {
            for (String row : new String[] {"0".repeat(length), "9".repeat(length), "09876543210987654321".substring(0, length)}) {
                digitsOf(row);
            }
        }
    }

    private static void digitsOf(String row) {
        if (row.length() > 6) {
            wrong(RANGE, "exchange 1 1;line |" + row + ";");
            wrong(RANGE, "exchange 1 1;line 1;call 1 |" + row + " 1 1;");
        } else {
            ExchangeControl x = read("exchange 1 1;line " + row + ";");
            Checks.put(x, row);
            checks.due("the line of " + row, x.look(row.length(), 0), 0);
            ExchangeControl y = read("exchange 1 1;line 1;call 1 " + row + " 1 1;");
            checks.due("how many digits of " + row, y.call(0, 1), row.length());
            for (int k = 0; k < row.length(); k++) {
                checks.due("digit " + k + " of " + row, y.digit(0, k), row.charAt(k) - '0');
            }
        }
        if (row.length() > 5) {
            wrong(RANGE, "exchange 1 1;group a 1 0;route |" + row + " 6 a;");
        } else {
            ExchangeControl x = read("exchange 1 1;group a 1 0;route " + row + " 6 a;");
            Checks.put(x, row);
            checks.due("the route of " + row, x.look(row.length(), 1), 0);
            checks.due("no route of less than " + row, row.length() > 1 ? x.look(row.length() - 1, 1) : -1, -1);
        }
    }

    /** The first digits of call are a line's number or not known, but never out of range. */
    private static void firstDigitsOfCall() {
        for (int length = 1; length <= 20; length++) {
            String row = "0".repeat(length);
            wrong(NAME, "exchange 1 1;line 1;call |" + row + " 1 1 1;");
            if (length <= 6) {
                checks.due("from " + row, read("exchange 1 1;line 1;line " + row + ";call " + row + " 1 1 1;").call(0, 0), 1);
            }
        }
        wrong(NAME, "exchange 1 1;line 123456;call |1234567 1 1 1;");
        wrong(NAME, "exchange 1 1;line 123456;call |12345 1 1 1;");
        wrong(NAME, "exchange 1 1;line 123456;call |0123456 1 1 1;");
    }

    private static void names() {
        for (int length = 1; length <= 20; length++) {
            for (String letter : new String[] {"a", "z"}) {
                String name = letter.repeat(length);
                if (length <= 8) {
                    read("exchange 1 1;group " + name + " 1 0;route 1 1 " + name + ";");
                } else {
                    wrong(RANGE, "exchange 1 1;group |" + name + " 1 0;");
                    wrong(RANGE, "exchange 1 1;group a 1 0;route 1 1 |" + name + ";");
                    wrong(RANGE, "exchange 1 1;group b 1 0;route 1 1 b |" + name + ";");
                }
            }
        }
        wrong(RANGE, "exchange 1 1;group |" + "q".repeat(600) + " 1 0;");
    }

    private static void namesInRoute() {
        String groups = "exchange 1 1;group a 1 0;group b 2 1;group c 3 2;";
        wrong(NAME, groups + "route 1 1 |d;");
        wrong(NAME, groups + "route 1 1 a |d;");
        wrong(NAME, groups + "route 1 1 a b |d;");
        wrong(NAME, groups + "route 1 1 a |a;");
        wrong(NAME, groups + "route 1 1 a b |a;");
        wrong(NAME, groups + "route 1 1 a b |b;");
        wrong(NAME, groups + "route 1 1 c |c b;");
        read(groups + "route 1 1 a b c;route 2 1 a b c;route 3 1 c a b;");
        wrong(NAME, "exchange 1 1;route 1 1 |a;group a 1 0;");
    }

    /** Two names that differ in one letter, or in length, are two names. */
    private static void allLettersCount() {
        for (int k = 0; k < 8; k++) {
            String other = "aaaaaaaa".substring(0, k) + "b" + "aaaaaaaa".substring(k + 1);
            String shorter = "aaaaaaaa".substring(0, k + 1);
            checks.due("two names", read("exchange 1 1;group aaaaaaaa 1 0;group " + other + " 1 0;").state(3), 2);
            wrong(NAME, "exchange 1 1;group aaaaaaaa 1 0;route 1 1 |" + other + ";");
            wrong(NAME, "exchange 1 1;group " + shorter + " 1 0;group |" + shorter + " 1 0;");
            if (k < 7) {
                checks.due("a part of a name is another", read("exchange 1 1;group aaaaaaaa 1 0;group " + shorter + " 1 0;").state(3), 2);
            }
        }
        wrong(NAME, "exchange 1 1;group a 1 0;group b 1 0;group |a 1 0;");
        wrong(NAME, "exchange 1 1;line 1;line 2;line 3;line |1;");
        wrong(NAME, "exchange 1 1;line 012345;line |012345;");
        wrong(NAME, "exchange 1 1;group a 1 0;route 01234 5 a;route 1 1 a;route |01234 6 a;");
        checks.due("lines that differ in a zero", read("exchange 1 1;line 0;line 00;line 000;line 0000;line 00000;"
            + "line 000000;line 1;line 10;line 01;").state(2), 9);
        checks.due("prefixes that differ in a zero", read("exchange 1 1;group a 1 0;route 0 6 a;route 00 6 a;route 000 6 a;"
            + "route 0000 6 a;route 00000 6 a;route 1 6 a;route 01 6 a;route 10 6 a;").state(4), 8);
        read("exchange 1 1;line 1;group a 1 0;route 1 1 a;");
    }

    private static void wordsAsNames() {
        for (String word : new String[] {"exchange", "line", "group", "route", "call", "guard", "timeout", "work"}) {
            read("exchange 1 1;group " + word + " 1 0;route 1 1 " + word + ";" + "guard 1;timeout 1;work 1;line 1;");
        }
    }

    /** As many statements as are allowed are read; the next one is too many, at the first letter of it. */
    private static void count(int most, int what, String before, String statement) {
        for (int told = 0; told <= most; told++) {
            checks.due(told + " of " + statement, read(before + Checks.times(told, statement)).state(what), told);
        }
        String full = before + Checks.times(most, statement);
        String next = String.format(statement, most);
        wrong(MANY, full + "|" + next);
        wrong(MANY, full + "   |" + next);
        wrong(MANY, full + "|" + next + next + "x");
        wrong(MANY, full + "|" + next.substring(0, next.indexOf(' ')));
        wrong(SYNTAX, full + "|x" + next);
        wrong(SYNTAX, full + "|" + next.substring(0, 3));
    }

    private static void counts() {
        count(12, 2, "exchange 1 1;", "line %02d;");
        count(8, 4, "exchange 1 1;group a 1 0;", "route %d 1 a;");
        count(40, 5, "exchange 1 1;line 1;", "call 1 %d 1 1;");
        String groups = "exchange 1 1;";
        for (int told = 0; told < 5; told++) {
            checks.due(told + " groups", read(groups).state(3), told);
            groups = groups + "group " + (char) ('a' + told) + " 1 0;";
        }
        checks.due("5 groups", read(groups).state(3), 5);
        wrong(MANY, groups + "|group f 1 0;");
        wrong(MANY, groups + "  |group f 1 0;");
        wrong(MANY, groups + "|group a 1 0;");
        wrong(MANY, groups + "|group");
        wrong(SYNTAX, groups.substring(0, groups.length() - 1) + "|group f 1 0;");
        String full = FullHouse.TEXT + Checks.times(38, "call0 8 1 1;");
        checks.due("as many of each as there may be", read(full).state(5), 38);
        for (String next : new String[] {"line 7;", "group f 1 0;", "route 9 1 a;"}) {
            wrong(MANY, FullHouse.TEXT + "|" + next);
        }
    }

    private static void namesOfRoute() {
        String groups = "exchange 1 1;group a 1 0;group b 2 0;group c 3 0;group d 4 0;";
        wrong(SYNTAX, groups + "route 1 1|;");
        read(groups + "route 1 1 a;");
        read(groups + "route 1 1 a b;");
        read(groups + "route 1 1 a b c;");
        wrong(SYNTAX, groups + "route 1 1 a b c |d;");
        wrong(SYNTAX, groups + "route 1 1 a b c   |d;");
        wrong(SYNTAX, groups + "route 1 1 a b c |d a;");
    }

    private static void rulesOnce() {
        ExchangeControl x = read("exchange 1 1;");
        checks.due("guard without its statement", x.state(19), 40);
        checks.due("timeout without its statement", x.state(20), 5);
        checks.due("work without its statement", x.state(21), 2);
        String[] rules = {"guard", "timeout", "work"};
        for (String first : rules) {
            for (String second : rules) {
                if (first.equals(second)) {
                    wrong(SYNTAX, "exchange 1 1;" + first + " 3;|" + second + " 3;");
                    wrong(SYNTAX, "exchange 1 1;" + first + " 3;  |" + second + " 0;");
                    wrong(SYNTAX, "exchange 1 1;" + first + " 3;line 1;|" + second);
                } else {
                    read("exchange 1 1;" + first + " 3;" + second + " 3;");
                }
            }
        }
        // what an earlier text told does not count as a first one
        ExchangeControl y = new ExchangeControl();
        checks.due("rules told", Checks.loaded(y, "exchange 1 1;guard 3;timeout 3;work 3;?"), SYNTAX);
        checks.due("and told anew", Checks.loaded(y, "exchange 1 1;guard 4;timeout 4;work 4;"), 0);
        checks.due("and not told", Checks.loaded(y, "exchange 1 1;"), 0);
        checks.due("as without", y.checksum(), x.checksum());
    }

    /** A word that is one letter longer or shorter than a known one is not known, at its first letter. */
    private static void unknownWords() {
        for (String word : new String[] {"exchange", "line", "group", "route", "call", "guard", "timeout", "work"}) {
            String before = word.equals("exchange") ? "" : ONE_OF_EACH;
            wrong(SYNTAX, before + "|" + word.substring(1) + " 1 1;");
            wrong(SYNTAX, before + "|" + word.substring(0, word.length() - 1) + " 1 1;");
            wrong(SYNTAX, before + "|" + word + "s 1 1;");
            wrong(SYNTAX, before + "|" + word + word + " 1 1;");
            wrong(SYNTAX, before + "|a" + word + " 1 1;");
            for (int k = 0; k < word.length(); k++) {
                wrong(SYNTAX, before + "|" + word.substring(0, k) + "y" + word.substring(k + 1) + " 1 1;");
            }
            for (int k = 1; k < word.length(); k++) {
                wrong(SYNTAX, before + "|" + word.substring(0, k) + " " + word.substring(k) + " 1 1;");
            }
        }
        wrong(SYNTAX, "exchange 1 1;|exchange 1 1;");
    }
}
