import java.util.ArrayDeque;
import java.util.ArrayList;
import java.util.Deque;
import java.util.List;
import java.util.NoSuchElementException;
import java.util.Random;

/** Runs of calls drawn by fixed seeds, asked of the class and of the model; all promises together. */
final class RunsTest {
    private static final Checks checks = new Checks();

    private final int seed;
    private final Random random;
    private final ExchangeControl x = new ExchangeControl();
    private Model model = new Model(1, 1);
    private final Deque<Model> past = new ArrayDeque<>();
    private String buffer = "";
    private int errorOffset = -1;

    private RunsTest(int seed) {
        this.seed = seed;
        random = new Random(seed);
    }

    public static void main(String[] args) {
        for (int seed = 0; seed < 6000; seed++) {
            new RunsTest(seed).run();
        }
        checks.end();
    }

    private void run() {
        int steps = seed % 100 == 0 ? 200 : 40;
        if (random.nextInt(8) > 0) {
            load(setup());
        }
        for (int step = 0; step < steps; step++) {
            step();
            due("checksum", x.checksum(), model.checksum());
            due("errorOffset", x.errorOffset(), errorOffset);
        }
    }

    private void due(String what, long got, long want) {
        checks.due("seed " + seed + ": " + what, got, want);
    }

    private int below(int bound) {
        return random.nextInt(bound);
    }

    private void remember() {
        past.push(model.copy());
        if (past.size() > 8) {
            past.removeLast();
        }
    }

    private String digits(int most) {
        StringBuilder digits = new StringBuilder();
        int length = 1 + below(most);
        for (int k = 0; k < length; k++) {
            digits.append((char) ('0' + below(3)));
        }
        return digits.toString();
    }

    /** Different rows of digits, but now and then a row twice, so that there are NAME_ERRORs too. */
    private List<String> rows(int count, int most) {
        List<String> rows = new ArrayList<>();
        for (int tries = 0; tries < 60 && rows.size() < count; tries++) {
            String row = digits(most);
            if (!rows.contains(row) || below(100) == 0) {
                rows.add(row);
            }
        }
        return rows;
    }

    /** What a call dials: the number of a line, what a route takes, or any digits. */
    private String aim(List<String> lines, List<String> prefixes) {
        int kind = below(6);
        if (kind < 2 && !lines.isEmpty()) {
            return lines.get(below(lines.size())) + (below(4) == 0 ? "7" : "");
        }
        if (kind < 5 && !prefixes.isEmpty()) {
            String prefix = prefixes.get(below(prefixes.size()));
            return prefix + "7777".substring(0, Math.min(below(5), 6 - prefix.length()));
        }
        return digits(6);
    }

    private String setup() {
        StringBuilder text = new StringBuilder();
        text.append("exchange ").append(1 + below(4)).append(' ').append(1 + below(3)).append(';');
        List<String> lines = rows(1 + below(below(8) == 0 ? 13 : 10), 4);
        for (String line : lines) {
            text.append("line ").append(line).append(';');
        }
        int groups = 1 + below(below(20) == 0 ? 6 : 4);
        for (int k = 0; k < groups; k++) {
            int trunks = 1 + below(below(2) == 0 ? 1 : 3);
            text.append("group ").append((char) ('a' + k)).append(' ').append(trunks).append(' ')
                .append(below(trunks)).append(';');
        }
        List<String> prefixes = rows(below(below(20) == 0 ? 10 : 6), 3);
        for (String prefix : prefixes) {
            text.append("route ").append(prefix).append(' ').append(prefix.length() + below(3));
            int first = below(groups);
            int choices = below(100) == 0 ? 4 : 1 + below(Math.min(groups, 3));
            for (int k = 0; k < choices; k++) {
                text.append(' ').append((char) ('a' + (first + k) % groups));
            }
            text.append(';');
        }
        for (String rule : new String[] {"guard", "timeout", "work"}) {
            if (below(3) == 0) {
                text.append(rule).append(' ').append(1 + below(4)).append(';');
            }
        }
        int calls = below(below(4) == 0 ? 42 : 20);
        for (int k = 0; k < calls; k++) {
            text.append("call ").append(lines.get(below(lines.size()))).append(' ').append(aim(lines, prefixes))
                .append(' ').append(1 + below(below(3) == 0 ? 40 : 10)).append(' ')
                .append(1 + below(below(4) == 0 ? 99 : 20)).append(';');
        }
        return text.length() > 700 ? text.substring(0, text.lastIndexOf(";", 699) + 1) : text.toString();
    }

    private String spoiled(String text) {
        StringBuilder spoiled = new StringBuilder(text);
        String signs = "0129 ;abcelinroutgpkw\u0000A\u00e9{";
        for (int count = 1 + below(2); count > 0 && spoiled.length() > 0; count--) {
            int at = below(spoiled.length());
            char sign = signs.charAt(below(signs.length()));
            switch (below(4)) {
                case 0:
                    spoiled.deleteCharAt(at);
                    break;
                case 1:
                    spoiled.insert(at, sign);
                    break;
                case 2:
                    spoiled.setCharAt(at, sign);
                    break;
                default:
                    spoiled.setLength(at);
                    break;
            }
        }
        return spoiled.length() > 700 ? spoiled.substring(0, 700) : spoiled.toString();
    }

    private void put(String text) {
        for (int start = 0; start < text.length(); start += 20) {
            String part = text.substring(start, Math.min(start + 20, text.length()));
            StringBuilder padded = new StringBuilder(part);
            while (padded.length() < 20) {
                padded.append(' ');
            }
            boolean fits = buffer.length() + 20 <= 700;
            buffer = fits ? buffer + padded : buffer;
            due("append", Checks.put(x, padded.toString()), fits ? buffer.length() : -1);
        }
    }

    private void load(String text) {
        if (!buffer.isEmpty()) {
            x.load(buffer.length());
            ModelSetup reader = new ModelSetup();
            Model told = ModelSetup.of(buffer, reader);
            if (told != null) {
                remember();
                model = told;
            }
        }
        buffer = "";
        put(text);
        ModelSetup reader = new ModelSetup();
        Model told = ModelSetup.of(text, reader);
        errorOffset = reader.offset;
        if (told != null) {
            remember();
            model = told;
        }
        due("load " + text, x.load(text.length()), told == null ? reader.code : told.calls.size());
        due("offset in " + text, x.errorOffset(), errorOffset);
        buffer = "";
    }

    private void step() {
        switch (below(16)) {
            case 0:
                if (below(3) == 0) {
                    load(below(2) == 0 ? setup() : spoiled(setup()));
                }
                break;
            case 1:
            case 2:
                dial();
                break;
            case 3:
                hang();
                break;
            case 4:
                rule();
                break;
            case 5:
                undo();
                break;
            case 6:
                look();
                break;
            case 7:
                foretell();
                break;
            case 8:
                ask();
                break;
            default:
                pass(below(20) == 0 ? 1 + below(300) : 1 + below(5));
                break;
        }
    }

    private void pass(int ticks) {
        remember();
        int before = model.inState(6);
        for (int tick = 0; tick < ticks; tick++) {
            model.tick();
        }
        due("pass", x.pass(ticks), model.inState(6) - before);
    }

    private void dial() {
        if (below(3) > 0) {
            put(aim(model.lines, model.prefixes));
        }
        int line = below(model.lines.size() + 1);
        int length = below(8);
        int talk = below(20) == 0 ? 100 * below(2) : 1 + below(20);
        if (line >= model.lines.size()) {
            checks.dueThrow("dial", IndexOutOfBoundsException.class, () -> x.dial(line, length, talk));
        } else if (length < 1 || length > 6 || length > buffer.length() || talk < 1 || talk > 99) {
            checks.dueThrow("dial", IllegalArgumentException.class, () -> x.dial(line, length, talk));
        } else if (model.calls.size() == 40) {
            checks.dueThrow("dial", IllegalStateException.class, () -> x.dial(line, length, talk));
        } else {
            String dialled = buffer.substring(0, length);
            buffer = "";
            int want = -1;
            if (dialled.matches("[0-9]+")) {
                remember();
                want = model.tell(line, dialled, talk, model.time + 1);
            }
            due("dial " + dialled, x.dial(line, length, talk), want);
        }
    }

    private void hang() {
        int call = below(model.calls.size() + 1);
        if (call >= model.calls.size()) {
            checks.dueThrow("hang", IndexOutOfBoundsException.class, () -> x.hang(call));
        } else if (model.calls.get(call).state >= 6) {
            checks.dueThrow("hang", IllegalStateException.class, () -> x.hang(call));
        } else {
            remember();
            int before = model.calls.get(call).state;
            model.end(call, 11);
            due("hang", x.hang(call), before);
        }
    }

    private void rule() {
        int what = 18 + below(5);
        int value = below(8);
        if (what < 19 || what > 21 || value == 0) {
            checks.dueThrow("rule", IllegalArgumentException.class, () -> x.rule(what, value));
            return;
        }
        remember();
        due("rule", x.rule(what, value), model.state(what));
        switch (what) {
            case 19:
                model.guard = value;
                break;
            case 20:
                model.timeout = value;
                break;
            default:
                model.work = value;
                break;
        }
    }

    private void undo() {
        for (int times = 1 + below(3); times > 0; times--) {
            int want = past.isEmpty() ? -1 : past.size() - 1;
            model = past.isEmpty() ? model : past.pop();
            due("undo", x.undo(), want);
        }
    }

    private void look() {
        put(aim(model.lines, model.prefixes));
        int length = 1 + below(6);
        if (length > buffer.length() || !buffer.substring(0, length).matches("[0-9]+")) {
            checks.dueThrow("look", IllegalArgumentException.class, () -> x.look(length, 0));
            return;
        }
        String digits = buffer.substring(0, length);
        due("look 0 " + digits, x.look(length, 0), model.lines.indexOf(digits));
        due("look 1 " + digits, x.look(length, 1), model.wayOf(digits));
        due("look 2 " + digits, x.look(length, 2), model.complete(digits) ? 1 : 0);
        due("look 3 " + digits, x.look(length, 3), model.groupNow(digits));
    }

    private void foretell() {
        int ticks = 1 + below(below(4) == 0 ? 600 : 30);
        int state = below(12);
        due("foretold", x.foretold(ticks, state), model.foretold(ticks, state));
        for (int call = 0; call < model.calls.size(); call++) {
            due("overIn", x.overIn(call), model.overIn(call));
        }
        if (below(4) == 0) {
            due("bestGuard", x.bestGuard(), model.bestGuard());
        }
    }

    private void ask() {
        due("foremost", x.foremost(true), model.forMarker.isEmpty() ? -1 : model.forMarker.getFirst());
        due("foremost", x.foremost(false), model.forRegister.isEmpty() ? -1 : model.forRegister.getFirst());
        int all = model.calls.size() - model.inState(11);
        for (int state = 0; state <= 5; state++) {
            all -= model.inState(state);
        }
        checks.dueFloat("service", x.service(), all == 0 ? 1 : (float) model.inState(6) / all);
        for (int g = 0; g < model.groupNames.size(); g++) {
            int[] group = model.groups[g];
            float want = model.time == 0 ? 0 : (float) group[6] / (group[0] * model.time);
            checks.dueFloat("traffic", x.traffic(g), want);
        }
        for (int call = 0; call < model.calls.size(); call++) {
            int asked = call;
            String digits = model.calls.get(call).digits;
            for (int k = 0; k < digits.length(); k++) {
                due("digit", x.digit(call, k), digits.charAt(k) - '0');
            }
            checks.dueThrow("digit", NoSuchElementException.class, () -> x.digit(asked, digits.length()));
        }
    }
}
