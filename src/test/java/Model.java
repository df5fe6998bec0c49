import java.util.ArrayList;
import java.util.LinkedList;
import java.util.List;
import java.util.TreeMap;

/**
 * A second exchange, written from the document alone and held in other ways than the class: digits as texts, queues
 * as lists, lines and trunks as counters. RunsTest asks both the same.
 */
final class Model implements Cloneable {
    static final class Told {
        int line;
        String digits;
        int talk;
        int time;
        int state;
        int partner = -1;
        int group = -1;
        int began = -1;
        int over = -1;
        int left;
        int register = -1;

        Told copy() {
            Told copy = new Told();
            copy.line = line;
            copy.digits = digits;
            copy.talk = talk;
            copy.time = time;
            copy.state = state;
            copy.partner = partner;
            copy.group = group;
            copy.began = began;
            copy.over = over;
            copy.left = left;
            copy.register = register;
            return copy;
        }
    }

    static final class Way {
        final int length;
        final List<Integer> groups = new ArrayList<>();

        Way(int length) {
            this.length = length;
        }
    }

    int time;
    int guard = 40;
    int timeout = 5;
    int work = 2;
    int longest;
    List<String> lines = new ArrayList<>();
    /** The calls that keep each line busy, as callers or as called. */
    int[] lineUses = new int[12];
    int[] lineCame = new int[12];
    List<String> groupNames = new ArrayList<>();
    /** For each group: trunks, held, busy, overflows, begun, begun otherwise, busy ticks. */
    int[][] groups = new int[5][7];
    List<String> prefixes = new ArrayList<>();
    List<Way> ways = new ArrayList<>();
    List<Told> calls = new ArrayList<>();
    int[] registerCall;
    String[] registerDigits;
    int[] registerWaited;
    int[] markerCall;
    int[] markerLeft;
    LinkedList<Integer> forRegister = new LinkedList<>();
    LinkedList<Integer> forMarker = new LinkedList<>();

    Model(int registers, int markers) {
        registerCall = new int[registers];
        registerDigits = new String[registers];
        registerWaited = new int[registers];
        markerCall = new int[markers];
        markerLeft = new int[markers];
        for (int r = 0; r < registers; r++) {
            clearRegister(r);
        }
        for (int m = 0; m < markers; m++) {
            clearMarker(m);
        }
    }

    private void clearRegister(int r) {
        registerCall[r] = -1;
        registerDigits[r] = "";
        registerWaited[r] = 0;
    }

    private void clearMarker(int m) {
        markerCall[m] = -1;
        markerLeft[m] = 0;
    }

    Model copy() {
        Model copy;
        try {
            copy = (Model) clone();
        } catch (CloneNotSupportedException impossible) {
            throw new IllegalStateException(impossible);
        }
        copy.lines = new ArrayList<>(lines);
        copy.lineUses = lineUses.clone();
        copy.lineCame = lineCame.clone();
        copy.groupNames = new ArrayList<>(groupNames);
        copy.groups = new int[5][];
        for (int g = 0; g < 5; g++) {
            copy.groups[g] = groups[g].clone();
        }
        copy.prefixes = new ArrayList<>(prefixes);
        copy.ways = new ArrayList<>(ways);
        copy.calls = new ArrayList<>();
        for (Told call : calls) {
            copy.calls.add(call.copy());
        }
        copy.registerCall = registerCall.clone();
        copy.registerDigits = registerDigits.clone();
        copy.registerWaited = registerWaited.clone();
        copy.markerCall = markerCall.clone();
        copy.markerLeft = markerLeft.clone();
        copy.forRegister = new LinkedList<>(forRegister);
        copy.forMarker = new LinkedList<>(forMarker);
        return copy;
    }

    int tell(int line, String digits, int talk, int at) {
        Told call = new Told();
        call.line = line;
        call.digits = digits;
        call.talk = talk;
        call.time = at;
        calls.add(call);
        return calls.size() - 1;
    }

    int wayOf(String digits) {
        TreeMap<Integer, Integer> byLength = new TreeMap<>();
        for (int w = 0; w < ways.size(); w++) {
            if (digits.startsWith(prefixes.get(w))) {
                byLength.put(prefixes.get(w).length(), w);
            }
        }
        return byLength.isEmpty() ? -1 : byLength.lastEntry().getValue();
    }

    boolean complete(String digits) {
        return lines.contains(digits)
            || wayOf(digits) >= 0 && ways.get(wayOf(digits)).length == digits.length();
    }

    private boolean free(int group, int choice) {
        int idle = groups[group][0] - groups[group][2];
        return choice == 0 ? idle >= 1 : idle >= groups[group][1] + 1;
    }

    int groupNow(String digits) {
        if (!complete(digits) || lines.contains(digits)) {
            return -1;
        }
        List<Integer> choices = ways.get(wayOf(digits)).groups;
        for (int k = 0; k < choices.size(); k++) {
            if (free(choices.get(k), k)) {
                return choices.get(k);
            }
        }
        return -1;
    }

    void end(int c, int state) {
        Told call = calls.get(c);
        if (call.state >= 1 && call.state <= 5) {
            lineUses[call.line]--;
        }
        if (call.state == 5 && call.partner >= 0) {
            lineUses[call.partner]--;
        }
        if (call.state == 5 && call.group >= 0) {
            groups[call.group][2]--;
        }
        if (call.register >= 0) {
            clearRegister(call.register);
        }
        call.register = -1;
        for (int m = 0; m < markerCall.length; m++) {
            if (markerCall[m] == c) {
                clearMarker(m);
            }
        }
        forRegister.remove((Integer) c);
        forMarker.remove((Integer) c);
        call.left = 0;
        call.state = state;
        call.over = time;
    }

    void tick() {
        time++;
        for (int c = 0; c < calls.size(); c++) {
            if (calls.get(c).state == 0 && calls.get(c).time == time) {
                come(c);
            }
        }
        for (int c = 0; c < calls.size(); c++) {
            if (calls.get(c).state == 5 && --calls.get(c).left == 0) {
                end(c, 6);
            }
        }
        for (int m = 0; m < markerCall.length; m++) {
            if (markerCall[m] >= 0 && --markerLeft[m] == 0) {
                mark(m);
            }
        }
        for (int r = 0; r < registerCall.length; r++) {
            if (registerCall[r] >= 0 && calls.get(registerCall[r]).state == 2) {
                take(r);
            }
        }
        for (int m = 0; m < markerCall.length; m++) {
            if (markerCall[m] < 0 && !forMarker.isEmpty()) {
                markerCall[m] = forMarker.removeFirst();
                markerLeft[m] = work;
                calls.get(markerCall[m]).state = 4;
            }
        }
        for (int r = 0; r < registerCall.length; r++) {
            if (registerCall[r] < 0 && !forRegister.isEmpty()) {
                registerCall[r] = forRegister.removeFirst();
                calls.get(registerCall[r]).state = 2;
                calls.get(registerCall[r]).register = r;
            }
        }
        longest = Math.max(longest, forRegister.size());
        for (int[] group : groups) {
            group[6] += group[2];
        }
    }

    private void come(int c) {
        Told call = calls.get(c);
        lineCame[call.line]++;
        if (lineUses[call.line] > 0 || forRegister.size() >= guard) {
            call.state = 10;
            call.over = time;
            return;
        }
        call.state = 1;
        lineUses[call.line]++;
        forRegister.addLast(c);
    }

    private void mark(int m) {
        int c = markerCall[m];
        Told call = calls.get(c);
        String digits = registerDigits[call.register];
        clearMarker(m);
        clearRegister(call.register);
        call.register = -1;
        if (lines.contains(digits)) {
            int called = lines.indexOf(digits);
            if (lineUses[called] > 0) {
                end(c, 7);
                return;
            }
            call.partner = called;
            lineUses[called]++;
            call.state = 5;
            call.began = time;
            call.left = call.talk;
            return;
        }
        int choice = 0;
        for (int group : ways.get(wayOf(digits)).groups) {
            if (free(group, choice)) {
                groups[group][2]++;
                groups[group][4]++;
                groups[group][5] += choice == 0 ? 0 : 1;
                call.group = group;
                call.state = 5;
                call.began = time;
                call.left = call.talk;
                return;
            }
            groups[group][3]++;
            choice++;
        }
        end(c, 8);
    }

    private void take(int r) {
        int c = registerCall[r];
        Told call = calls.get(c);
        int dialled = registerDigits[r].length();
        if (dialled < call.digits.length() && !complete(registerDigits[r])) {
            registerDigits[r] = call.digits.substring(0, dialled + 1);
        }
        if (complete(registerDigits[r])) {
            call.state = 3;
            forMarker.addLast(c);
        } else if (registerDigits[r].length() == call.digits.length()) {
            registerWaited[r]++;
            if (registerWaited[r] >= timeout) {
                end(c, 9);
            }
        }
    }

    int inState(int state) {
        int count = 0;
        for (Told call : calls) {
            count += call.state == state ? 1 : 0;
        }
        return count;
    }

    int state(int what) {
        int[] plain = {registerCall.length, markerCall.length, lines.size(), groupNames.size(), ways.size(),
            calls.size(), time};
        if (what < 7) {
            return plain[what];
        }
        if (what < 19) {
            return inState(what - 7);
        }
        int busy = 0;
        for (int uses : lineUses) {
            busy += uses > 0 ? 1 : 0;
        }
        int overflows = 0;
        for (int[] group : groups) {
            overflows += group[3];
        }
        return new int[] {guard, timeout, work, busy, overflows, longest}[what - 19];
    }

    int line(int line, int what) {
        int calling = -1;
        int called = -1;
        int well = 0;
        for (int c = 0; c < calls.size(); c++) {
            Told call = calls.get(c);
            calling = call.line == line && call.state >= 1 && call.state <= 5 ? c : calling;
            called = call.partner == line && call.state == 5 ? c : called;
            well += call.line == line && call.state == 6 ? 1 : 0;
        }
        return new int[] {lineUses[line] > 0 ? 1 : 0, calling, called, lineCame[line], well}[what];
    }

    int call(int c, int what) {
        Told call = calls.get(c);
        return new int[] {call.line, call.digits.length(), call.talk, call.time, call.state, call.partner, call.group,
            call.began, call.over, call.left, call.register}[what];
    }

    int register(int r, int what) {
        return new int[] {registerCall[r], registerDigits[r].length(), registerWaited[r]}[what];
    }

    int overIn(int c) {
        Model later = copy();
        for (int ticks = 0; ticks <= 600; ticks++) {
            if (later.calls.get(c).state >= 6) {
                return ticks;
            }
            later.tick();
        }
        return -1;
    }

    int foretold(int ticks, int state) {
        Model later = copy();
        for (int tick = 0; tick < ticks; tick++) {
            later.tick();
        }
        return later.inState(state);
    }

    int bestGuard() {
        int best = 40;
        int most = -1;
        for (int told = 40; told >= 1; told--) {
            Model later = copy();
            later.guard = told;
            int well = later.foretold(300, 6);
            if (well >= most) {
                most = well;
                best = told;
            }
        }
        return best;
    }

    long checksum() {
        List<Integer> all = new ArrayList<>();
        for (int what = 0; what <= 24; what++) {
            all.add(state(what));
        }
        for (int l = 0; l < lines.size(); l++) {
            for (int what = 0; what <= 4; what++) {
                all.add(line(l, what));
            }
        }
        for (int g = 0; g < groupNames.size(); g++) {
            for (int what = 0; what <= 6; what++) {
                all.add(groups[g][what]);
            }
        }
        for (int r = 0; r < registerCall.length; r++) {
            for (int what = 0; what <= 2; what++) {
                all.add(register(r, what));
            }
        }
        for (int m = 0; m < markerCall.length; m++) {
            all.add(markerCall[m]);
            all.add(markerLeft[m]);
        }
        for (int c = 0; c < calls.size(); c++) {
            for (int what = 0; what <= 10; what++) {
                all.add(call(c, what));
            }
        }
        long sum = 0;
        for (int n : all) {
            sum = sum * 31 + n;
        }
        return sum;
    }
}
