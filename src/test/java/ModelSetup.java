import java.util.ArrayList;
import java.util.HashSet;
import java.util.List;
import java.util.Set;
import java.util.regex.Matcher;
import java.util.regex.Pattern;

/** Reads a setup text for the model: all tokens first, then the grammar over them. */
final class ModelSetup {
    private static final Pattern TOKEN = Pattern.compile("[0-9]+|[a-z]+|[^ ]", Pattern.DOTALL);

    private static final class Wrong extends RuntimeException {
        private static final long serialVersionUID = 1L;
        final int code;
        final int offset;

        Wrong(int code, int offset) {
            this.code = code;
            this.offset = offset;
        }
    }

    private final List<String> tokens = new ArrayList<>();
    private final List<Integer> offsets = new ArrayList<>();
    private final Set<String> rulesTold = new HashSet<>();
    private int at = 0;
    private Model told;
    int code = 0;
    int offset = -1;

    /** The model that a text tells; null if the text has an error, which code and offset tell then. */
    static Model of(String text, ModelSetup reader) {
        Matcher matcher = TOKEN.matcher(text);
        while (matcher.find()) {
            reader.tokens.add(matcher.group());
            reader.offsets.add(matcher.start());
        }
        reader.tokens.add("");
        reader.offsets.add(text.length());
        try {
            reader.setup();
            return reader.told;
        } catch (Wrong wrong) {
            reader.code = wrong.code;
            reader.offset = wrong.offset;
            return null;
        }
    }

    private int here() {
        return offsets.get(at);
    }

    private String want(String pattern) {
        if (!tokens.get(at).matches(pattern)) {
            throw new Wrong(-2, here());
        }
        return tokens.get(at++);
    }

    private void check(boolean fine, int code) {
        if (!fine) {
            throw new Wrong(code, offsets.get(at - 1));
        }
    }

    private int number(int least, int most) {
        String digits = want("[0-9]+").replaceFirst("^0+(?=.)", "");
        check(digits.length() < 5, -3);
        int number = Integer.parseInt(digits);
        check(number >= least && number <= most, -3);
        return number;
    }

    private String name() {
        String name = want("[a-z]+");
        check(name.length() <= 8, -3);
        return name;
    }

    private void setup() {
        want("exchange");
        int registers = number(1, 4);
        told = new Model(registers, number(1, 3));
        want(";");
        while (!tokens.get(at).isEmpty()) {
            statement(want("line|group|route|call|guard|timeout|work"));
            want(";");
        }
    }

    private void statement(String word) {
        if (word.equals("line")) {
            check(told.lines.size() < 12, -5);
            String digits = want("[0-9]+");
            check(digits.length() <= 6, -3);
            check(!told.lines.contains(digits), -4);
            told.lines.add(digits);
        } else if (word.equals("group")) {
            check(told.groupNames.size() < 5, -5);
            String name = name();
            check(!told.groupNames.contains(name), -4);
            int trunks = number(1, 8);
            int held = number(0, trunks - 1);
            told.groups[told.groupNames.size()][0] = trunks;
            told.groups[told.groupNames.size()][1] = held;
            told.groupNames.add(name);
        } else if (word.equals("route")) {
            route();
        } else if (word.equals("call")) {
            check(told.calls.size() < 40, -5);
            String from = want("[0-9]+");
            check(told.lines.contains(from), -4);
            String digits = want("[0-9]+");
            check(digits.length() <= 6, -3);
            int talk = number(1, 99);
            told.tell(told.lines.indexOf(from), digits, talk, number(1, 999));
        } else {
            check(rulesTold.add(word), -2);
            if (word.equals("guard")) {
                told.guard = number(1, 40);
            } else if (word.equals("timeout")) {
                told.timeout = number(1, 20);
            } else {
                told.work = number(1, 9);
            }
        }
    }

    private void route() {
        check(told.ways.size() < 8, -5);
        String prefix = want("[0-9]+");
        check(prefix.length() <= 5, -3);
        check(!told.prefixes.contains(prefix), -4);
        Model.Way way = new Model.Way(number(prefix.length(), 6));
        do {
            check(way.groups.size() <= 3, -2);
            String word = want("[a-z]+");
            check(way.groups.size() < 3, -2);
            check(word.length() <= 8, -3);
            int group = told.groupNames.indexOf(word);
            check(group >= 0 && !way.groups.contains(group), -4);
            way.groups.add(group);
        } while (tokens.get(at).matches("[a-z]+"));
        told.prefixes.add(prefix);
        told.ways.add(way);
    }
}
