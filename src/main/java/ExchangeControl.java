import java.util.NoSuchElementException;

/** A telephone exchange with a common control, as ../shared/DOC.md describes it. */
public final class ExchangeControl {
    public static final int SYNTAX_ERROR = -2;
    public static final int OUT_OF_RANGE = -3;
    public static final int NAME_ERROR = -4;
    public static final int TOO_MANY = -5;

    private static final int BUFFER_SIZE = 700;
    private static final int APPENDED = 20;
    private static final int CHANGES_KEPT = 8;
    private static final int LONGEST_PASS = 300;
    private static final int HORIZON = 600;
    private static final int GUARD_HORIZON = 300;

    private static final int MOST_REGISTERS = 4;
    private static final int MOST_MARKERS = 3;
    private static final int MOST_LINES = 12;
    private static final int MOST_GROUPS = 5;
    private static final int MOST_TRUNKS = 8;
    private static final int MOST_ROUTES = 8;
    private static final int MOST_CHOICES = 3;
    private static final int MOST_CALLS = 40;
    private static final int MOST_DIGITS = 6;
    private static final int MOST_PREFIX_DIGITS = 5;
    private static final int MOST_LETTERS = 8;
    private static final int MOST_TALK = 99;
    private static final int LATEST_TIME = 999;
    private static final int MOST_GUARD = 40;
    private static final int MOST_TIMEOUT = 20;
    private static final int MOST_WORK = 9;

    private static final int UNTOLD = -1;
    private static final int TO_COME = 0;
    private static final int WAITS_FOR_REGISTER = 1;
    private static final int DIALS = 2;
    private static final int WAITS_FOR_MARKER = 3;
    private static final int HAS_MARKER = 4;
    private static final int TALKS = 5;
    private static final int ENDED_WELL = 6;
    private static final int LINE_BUSY = 7;
    private static final int BLOCKED = 8;
    private static final int GIVEN_UP = 9;
    private static final int REFUSED = 10;
    private static final int HUNG_UP = 11;

    private static final int GUARD = 19;
    private static final int TIMEOUT = 20;
    private static final int WORK = 21;

    private static final int NONE = -1;
    private static final int NO_ROW = 0;

    private final byte[] buffer;
    private int filled;
    private int errorAt;
    private final Exchange now;
    private final Exchange trial;
    private final History history;
    private final SetupReader reader;

    public ExchangeControl() {
        buffer = new byte[BUFFER_SIZE];
        filled = 0;
        errorAt = NONE;
        now = new Exchange();
        trial = new Exchange();
        history = new History();
        reader = new SetupReader();
    }

    public int append(int w0, int w1, int w2, int w3, int w4) {
        if (filled + APPENDED > BUFFER_SIZE) {
            return -1;
        }
        putWord(w0);
        putWord(w1);
        putWord(w2);
        putWord(w3);
        putWord(w4);
        return filled;
    }

    public int load(int length) throws IllegalArgumentException {
        if (length < 0 || length > filled) {
            throw new IllegalArgumentException();
        }
        int error = reader.readSetup(buffer, length);
        filled = 0;
        errorAt = reader.errorAt;
        if (error != 0) {
            return error;
        }
        history.keep(now);
        now.copyFrom(reader.told);
        return now.callCount;
    }

    public int errorOffset() {
        return errorAt;
    }

    public int state(int what) throws IllegalArgumentException {
        if (what < 0 || what > 24) {
            throw new IllegalArgumentException();
        }
        if (what >= 7 && what <= 18) {
            return now.countIn(what - 7);
        }
        switch (what) {
            case 0: return now.registerCount;
            case 1: return now.markerCount;
            case 2: return now.lineCount;
            case 3: return now.groupCount;
            case 4: return now.routeCount;
            case 5: return now.callCount;
            case 6: return now.time;
            case GUARD: return now.guard;
            case TIMEOUT: return now.timeout;
            case WORK: return now.work;
            case 22: return now.busyLines();
            case 23: return now.allOverflows();
            default: return now.longestQueue;
        }
    }

    public int line(int line, int what) throws IndexOutOfBoundsException, IllegalArgumentException {
        if (!now.hasLine(line)) {
            throw new IndexOutOfBoundsException();
        }
        if (what < 0 || what > 4) {
            throw new IllegalArgumentException();
        }
        switch (what) {
            case 0: return now.isBusy(line) ? 1 : 0;
            case 1: return now.callFrom(line);
            case 2: return now.callTo(line);
            case 3: return now.cameFrom(line);
            default: return now.endedWellFrom(line);
        }
    }

    public int group(int group, int what) throws IndexOutOfBoundsException, IllegalArgumentException {
        Group asked = now.groupAt(group);
        if (asked == null) {
            throw new IndexOutOfBoundsException();
        }
        if (what < 0 || what > 6) {
            throw new IllegalArgumentException();
        }
        switch (what) {
            case 0: return asked.trunks;
            case 1: return asked.held;
            case 2: return now.busyTrunks(group);
            case 3: return asked.overflows;
            case 4: return asked.begun;
            case 5: return asked.begunOtherwise;
            default: return asked.busyTicks;
        }
    }

    public int register(int register, int what) throws IndexOutOfBoundsException, IllegalArgumentException {
        Register asked = now.registerAt(register);
        if (asked == null) {
            throw new IndexOutOfBoundsException();
        }
        if (what < 0 || what > 2) {
            throw new IllegalArgumentException();
        }
        switch (what) {
            case 0: return asked.call;
            case 1: return Rows.lengthOf(asked.row);
            default: return asked.waited;
        }
    }

    public int marker(int marker, int what) throws IndexOutOfBoundsException, IllegalArgumentException {
        Marker asked = now.markerAt(marker);
        if (asked == null) {
            throw new IndexOutOfBoundsException();
        }
        if (what < 0 || what > 1) {
            throw new IllegalArgumentException();
        }
        return what == 0 ? asked.call : asked.left;
    }

    public int call(int call, int what) throws IndexOutOfBoundsException, IllegalArgumentException {
        Call asked = now.callAt(call);
        if (asked == null) {
            throw new IndexOutOfBoundsException();
        }
        if (what < 0 || what > 10) {
            throw new IllegalArgumentException();
        }
        switch (what) {
            case 0: return asked.line;
            case 1: return Rows.lengthOf(asked.row);
            case 2: return asked.talk;
            case 3: return asked.comes;
            case 4: return asked.state;
            case 5: return asked.partner;
            case 6: return asked.group;
            case 7: return asked.began;
            case 8: return asked.over;
            case 9: return asked.left;
            default: return now.registerOf(call);
        }
    }

    public int digit(int call, int k) throws IndexOutOfBoundsException, NoSuchElementException {
        Call asked = now.callAt(call);
        if (asked == null) {
            throw new IndexOutOfBoundsException();
        }
        if (k < 0 || k >= Rows.lengthOf(asked.row)) {
            throw new NoSuchElementException();
        }
        return Rows.digitAt(asked.row, k);
    }

    public int look(int length, int what) throws IllegalArgumentException {
        if (!isDialLength(length) || what < 0 || what > 3) {
            throw new IllegalArgumentException();
        }
        int row = bufferRow(length);
        if (row == NO_ROW) {
            throw new IllegalArgumentException();
        }
        switch (what) {
            case 0: return now.lineWith(row);
            case 1: return now.routeIndexFor(row);
            case 2: return now.isComplete(row) ? 1 : 0;
            default: return now.groupFor(row);
        }
    }

    public int foremost(boolean forMarker) {
        Call first = now.firstWaiting(forMarker ? WAITS_FOR_MARKER : WAITS_FOR_REGISTER);
        return first == null ? NONE : first.index;
    }

    public int overIn(int call) throws IndexOutOfBoundsException {
        trial.copyFrom(now);
        Call watched = trial.callAt(call);
        if (watched == null) {
            throw new IndexOutOfBoundsException();
        }
        for (int ticks = 0; ticks < HORIZON; ticks++) {
            if (watched.isOver()) {
                return ticks;
            }
            trial.tick();
        }
        return watched.isOver() ? HORIZON : -1;
    }

    public int foretold(int ticks, int state) throws IllegalArgumentException {
        if (ticks < 1 || ticks > HORIZON || state < TO_COME || state > HUNG_UP) {
            throw new IllegalArgumentException();
        }
        trial.copyFrom(now);
        trial.settle(ticks);
        return trial.countIn(state);
    }

    public int bestGuard() {
        int best = 1;
        int most = -1;
        boolean differs = true;
        for (int guard = 1; guard <= MOST_GUARD && differs; guard++) {
            trial.copyFrom(now);
            trial.guard = guard;
            trial.guardRefused = false;
            trial.settle(GUARD_HORIZON);
            int endedWell = trial.countIn(ENDED_WELL);
            if (endedWell > most) {
                most = endedWell;
                best = guard;
            }
            // a guard that keeps nobody out does the same as every greater one
            differs = trial.guardRefused;
        }
        return best;
    }

    public float service() {
        int served = now.countIn(ENDED_WELL);
        int all = served + now.countIn(LINE_BUSY) + now.countIn(BLOCKED) + now.countIn(GIVEN_UP)
            + now.countIn(REFUSED);
        if (all == 0) {
            return 1.0f;
        }
        return (float) served / (float) all;
    }

    public float traffic(int group) throws IndexOutOfBoundsException {
        Group asked = now.groupAt(group);
        if (asked == null) {
            throw new IndexOutOfBoundsException();
        }
        int trunkTicks = asked.trunks * now.time;
        if (trunkTicks == 0) {
            return 0.0f;
        }
        return (float) asked.busyTicks / (float) trunkTicks;
    }

    public int dial(int line, int length, int talk)
        throws IndexOutOfBoundsException, IllegalArgumentException, IllegalStateException {
        if (!now.hasLine(line)) {
            throw new IndexOutOfBoundsException();
        }
        if (!isDialLength(length) || talk < 1 || talk > MOST_TALK) {
            throw new IllegalArgumentException();
        }
        if (now.callCount >= MOST_CALLS) {
            throw new IllegalStateException();
        }
        int row = bufferRow(length);
        filled = 0;
        if (row == NO_ROW) {
            return -1;
        }
        history.keep(now);
        return now.tellCall(line, row, talk, now.time + 1);
    }

    public int hang(int call) throws IndexOutOfBoundsException, IllegalStateException {
        Call hung = now.callAt(call);
        if (hung == null) {
            throw new IndexOutOfBoundsException();
        }
        if (hung.isOver()) {
            throw new IllegalStateException();
        }
        history.keep(now);
        int before = hung.state;
        now.hangUp(hung);
        return before;
    }

    public int rule(int what, int value) throws IllegalArgumentException {
        if (value < 1 || value > mostOf(what)) {
            throw new IllegalArgumentException();
        }
        history.keep(now);
        return now.setRule(what, value);
    }

    public int pass(int ticks) throws IllegalArgumentException {
        if (ticks < 1 || ticks > LONGEST_PASS) {
            throw new IllegalArgumentException();
        }
        history.keep(now);
        int before = now.countIn(ENDED_WELL);
        for (int tick = 0; tick < ticks; tick++) {
            now.tick();
        }
        return now.countIn(ENDED_WELL) - before;
    }

    public int undo() {
        return history.takeBack(now);
    }

    public long checksum() {
        long sum = 0;
        for (int what = 0; what <= 24; what++) {
            sum = 31 * sum + state(what);
        }
        sum = sumOfLines(sum);
        sum = sumOfGroups(sum);
        sum = sumOfRegisters(sum);
        sum = sumOfMarkers(sum);
        return sumOfCalls(sum);
    }

    private void putWord(int word) {
        for (int shift = 24; shift >= 0; shift -= 8) {
            if (filled >= 0 && filled < buffer.length) {
                buffer[filled] = (byte) (word >>> shift);
                filled++;
            }
        }
    }

    private boolean isDialLength(int length) {
        return length >= 1 && length <= MOST_DIGITS && length <= filled;
    }

    /** The first bytes of the buffer as a row of digits; NO_ROW if one of them is no digit. */
    private int bufferRow(int length) {
        int row = Rows.EMPTY;
        for (int k = 0; k < length && k < buffer.length; k++) {
            if (buffer[k] < '0' || buffer[k] > '9') {
                return NO_ROW;
            }
            row = Rows.with(row, buffer[k] - '0');
        }
        return row;
    }

    /** The greatest value of a rule; 0, so that no value will do, if there is no such rule. */
    private static int mostOf(int rule) {
        switch (rule) {
            case GUARD: return MOST_GUARD;
            case TIMEOUT: return MOST_TIMEOUT;
            case WORK: return MOST_WORK;
            default: return 0;
        }
    }

    private long sumOfLines(long start) {
        long sum = start;
        for (int index = 0; index < now.lineCount; index++) {
            for (int what = 0; what <= 4; what++) {
                sum = 31 * sum + line(index, what);
            }
        }
        return sum;
    }

    private long sumOfGroups(long start) {
        long sum = start;
        for (int index = 0; index < now.groupCount; index++) {
            for (int what = 0; what <= 6; what++) {
                sum = 31 * sum + group(index, what);
            }
        }
        return sum;
    }

    private long sumOfRegisters(long start) {
        long sum = start;
        for (int index = 0; index < now.registerCount; index++) {
            for (int what = 0; what <= 2; what++) {
                sum = 31 * sum + register(index, what);
            }
        }
        return sum;
    }

    private long sumOfMarkers(long start) {
        long sum = start;
        for (int index = 0; index < now.markerCount; index++) {
            for (int what = 0; what <= 1; what++) {
                sum = 31 * sum + marker(index, what);
            }
        }
        return sum;
    }

    private long sumOfCalls(long start) {
        long sum = start;
        for (int index = 0; index < now.callCount; index++) {
            for (int what = 0; what <= 10; what++) {
                sum = 31 * sum + call(index, what);
            }
        }
        return sum;
    }

    /**
     * A row of digits is held as a number with a 1 before its first digit (012 as 1012): so leading zeros count, and
     * a row divided by ten is the row without its last digit.
     */
    private static final class Rows {
        static final int EMPTY = 1;

        static int with(int row, int digit) {
            return row * 10 + digit;
        }

        static int lengthOf(int row) {
            int length = 0;
            for (int rest = row; rest >= 10; rest = rest / 10) {
                length++;
            }
            return length;
        }

        static int digitAt(int row, int k) {
            int start = row;
            for (int last = lengthOf(row) - 1; last > k; last--) {
                start = start / 10;
            }
            return start % 10;
        }
    }

    private static final class Call {
        final int index;
        int state;
        int line;
        int row;
        int talk;
        int comes;
        boolean came;
        int place;
        int partner;
        int group;
        int began;
        int over;
        int left;

        Call(int index) {
            this.index = index;
        }

        void tell(int line, int row, int talk, int comes) {
            state = TO_COME;
            this.line = line;
            this.row = row;
            this.talk = talk;
            this.comes = comes;
            came = false;
            place = 0;
            partner = NONE;
            group = NONE;
            began = NONE;
            over = NONE;
            left = 0;
        }

        void copyFrom(Call other) {
            state = other.state;
            line = other.line;
            row = other.row;
            talk = other.talk;
            comes = other.comes;
            came = other.came;
            place = other.place;
            partner = other.partner;
            group = other.group;
            began = other.began;
            over = other.over;
            left = other.left;
        }

        boolean isOver() {
            return state >= ENDED_WELL;
        }

        void beginToTalk(int time) {
            state = TALKS;
            began = time;
            left = talk;
        }

        void end(int how, int time) {
            state = how;
            over = time;
            left = 0;
        }
    }

    private static final class Group {
        final int index;
        long name;
        int trunks;
        int held;
        int overflows;
        int begun;
        int begunOtherwise;
        int busyTicks;

        Group(int index) {
            this.index = index;
        }

        void tell(long name, int trunks, int held) {
            this.name = name;
            this.trunks = trunks;
            this.held = held;
            overflows = 0;
            begun = 0;
            begunOtherwise = 0;
            busyTicks = 0;
        }

        void copyFrom(Group other) {
            name = other.name;
            trunks = other.trunks;
            held = other.held;
            overflows = other.overflows;
            begun = other.begun;
            begunOtherwise = other.begunOtherwise;
            busyTicks = other.busyTicks;
        }
    }

    private static final class Route {
        final int index;
        int prefix;
        int length;
        int choiceCount;
        final int[] choices;

        Route(int index) {
            this.index = index;
            choices = new int[MOST_CHOICES];
        }

        void tell(int prefix, int length) {
            this.prefix = prefix;
            this.length = length;
            choiceCount = 0;
        }

        void addChoice(int group) {
            if (choiceCount >= 0 && choiceCount < choices.length) {
                choices[choiceCount] = group;
                choiceCount++;
            }
        }

        int choiceAt(int k) {
            return k >= 0 && k < choiceCount && k < choices.length ? choices[k] : NONE;
        }

        boolean hasChoice(int group) {
            for (int k = 0; k < choiceCount; k++) {
                if (choiceAt(k) == group) {
                    return true;
                }
            }
            return false;
        }

        void copyFrom(Route other) {
            tell(other.prefix, other.length);
            for (int k = 0; k < other.choiceCount; k++) {
                addChoice(other.choiceAt(k));
            }
        }
    }

    private static final class Register {
        final int index;
        int call;
        int row;
        int waited;

        Register(int index) {
            this.index = index;
        }

        void serve(int newCall) {
            call = newCall;
            row = Rows.EMPTY;
            waited = 0;
        }

        void copyFrom(Register other) {
            call = other.call;
            row = other.row;
            waited = other.waited;
        }
    }

    private static final class Marker {
        final int index;
        int call;
        int left;

        Marker(int index) {
            this.index = index;
        }

        void serve(int newCall, int ticks) {
            call = newCall;
            left = ticks;
        }

        void copyFrom(Marker other) {
            call = other.call;
            left = other.left;
        }
    }

    /** All data of an exchange at one time; a thing of it that there is not is null, or NONE as an index. */
    private static final class Exchange {
        int registerCount;
        int markerCount;
        int lineCount;
        int groupCount;
        int routeCount;
        int callCount;
        int time;
        int guard;
        int timeout;
        int work;
        int longestQueue;
        int lastPlace;
        boolean guardRefused;
        final int[] numbers;
        final Group[] groups;
        final Route[] routes;
        final Register[] registers;
        final Marker[] markers;
        final Call[] calls;

        Exchange() {
            numbers = new int[MOST_LINES];
            groups = new Group[MOST_GROUPS];
            for (int index = 0; index < groups.length; index++) {
                groups[index] = new Group(index);
            }
            routes = new Route[MOST_ROUTES];
            for (int index = 0; index < routes.length; index++) {
                routes[index] = new Route(index);
            }
            registers = new Register[MOST_REGISTERS];
            for (int index = 0; index < registers.length; index++) {
                registers[index] = new Register(index);
            }
            markers = new Marker[MOST_MARKERS];
            for (int index = 0; index < markers.length; index++) {
                markers[index] = new Marker(index);
            }
            calls = new Call[MOST_CALLS];
            for (int index = 0; index < calls.length; index++) {
                calls[index] = new Call(index);
            }
            clear();
        }

        /** Makes it as by the text "exchange 1 1;". */
        private void clear() {
            registerCount = 1;
            markerCount = 1;
            lineCount = 0;
            groupCount = 0;
            routeCount = 0;
            callCount = 0;
            time = 0;
            guard = 40;
            timeout = 5;
            work = 2;
            longestQueue = 0;
            lastPlace = 0;
            guardRefused = false;
            for (Register register : registers) {
                register.serve(NONE);
            }
            for (Marker marker : markers) {
                marker.serve(NONE, 0);
            }
            for (Call call : calls) {
                call.state = UNTOLD;
            }
        }

        void copyFrom(Exchange other) {
            registerCount = other.registerCount;
            markerCount = other.markerCount;
            lineCount = other.lineCount;
            groupCount = other.groupCount;
            routeCount = other.routeCount;
            callCount = other.callCount;
            time = other.time;
            guard = other.guard;
            timeout = other.timeout;
            work = other.work;
            longestQueue = other.longestQueue;
            lastPlace = other.lastPlace;
            guardRefused = other.guardRefused;
            for (int k = 0; k < numbers.length && k < other.numbers.length; k++) {
                numbers[k] = other.numbers[k];
            }
            for (int k = 0; k < groups.length && k < other.groups.length; k++) {
                groups[k].copyFrom(other.groups[k]);
            }
            for (int k = 0; k < routes.length && k < other.routes.length; k++) {
                routes[k].copyFrom(other.routes[k]);
            }
            for (int k = 0; k < registers.length && k < other.registers.length; k++) {
                registers[k].copyFrom(other.registers[k]);
            }
            for (int k = 0; k < markers.length && k < other.markers.length; k++) {
                markers[k].copyFrom(other.markers[k]);
            }
            for (int k = 0; k < calls.length && k < other.calls.length; k++) {
                calls[k].copyFrom(other.calls[k]);
            }
        }

        void tellSize(int registersTold, int markersTold) {
            clear();
            registerCount = registersTold;
            markerCount = markersTold;
        }

        void tellLine(int number) {
            if (lineCount >= 0 && lineCount < numbers.length) {
                numbers[lineCount] = number;
                lineCount++;
            }
        }

        void tellGroup(long name, int trunks, int held) {
            if (groupCount >= 0 && groupCount < groups.length) {
                groups[groupCount].tell(name, trunks, held);
                groupCount++;
            }
        }

        /** Tells a route that has no choices yet; null if there are too many. */
        Route tellRoute(int prefix, int length) {
            if (routeCount < 0 || routeCount >= routes.length) {
                return null;
            }
            Route told = routes[routeCount];
            told.tell(prefix, length);
            routeCount++;
            return told;
        }

        int tellCall(int line, int row, int talk, int comes) {
            if (callCount < 0 || callCount >= calls.length) {
                return NONE;
            }
            Call told = calls[callCount];
            told.tell(line, row, talk, comes);
            callCount++;
            return told.index;
        }

        int setRule(int what, int value) {
            int before;
            switch (what) {
                case GUARD:
                    before = guard;
                    guard = value;
                    break;
                case TIMEOUT:
                    before = timeout;
                    timeout = value;
                    break;
                default:
                    before = work;
                    work = value;
                    break;
            }
            return before;
        }

        boolean hasLine(int index) {
            return index >= 0 && index < lineCount;
        }

        Group groupAt(int index) {
            return index >= 0 && index < groupCount && index < groups.length ? groups[index] : null;
        }

        Register registerAt(int index) {
            return index >= 0 && index < registerCount && index < registers.length ? registers[index] : null;
        }

        Marker markerAt(int index) {
            return index >= 0 && index < markerCount && index < markers.length ? markers[index] : null;
        }

        Call callAt(int index) {
            return index >= 0 && index < callCount && index < calls.length ? calls[index] : null;
        }

        int lineWith(int number) {
            for (int index = 0; index < lineCount && index < numbers.length; index++) {
                if (numbers[index] == number) {
                    return index;
                }
            }
            return NONE;
        }

        int groupNamed(long name) {
            for (Group group : groups) {
                if (group.index < groupCount && group.name == name) {
                    return group.index;
                }
            }
            return NONE;
        }

        boolean hasPrefix(int prefix) {
            for (Route route : routes) {
                if (route.index < routeCount && route.prefix == prefix) {
                    return true;
                }
            }
            return false;
        }

        /** The route with the longest prefix with which a row begins. */
        Route routeFor(int row) {
            for (int start = row; start >= 10; start = start / 10) {
                for (Route route : routes) {
                    if (route.index < routeCount && route.prefix == start) {
                        return route;
                    }
                }
            }
            return null;
        }

        int routeIndexFor(int row) {
            Route route = routeFor(row);
            return route == null ? NONE : route.index;
        }

        boolean isComplete(int row) {
            if (lineWith(row) != NONE) {
                return true;
            }
            Route route = routeFor(row);
            return route != null && route.length == Rows.lengthOf(row);
        }

        int groupFor(int row) {
            Route route = routeFor(row);
            if (route == null || lineWith(row) != NONE || !isComplete(row)) {
                return NONE;
            }
            return route.choiceAt(freeChoice(route));
        }

        int countIn(int state) {
            int count = 0;
            for (Call call : calls) {
                if (call.state == state) {
                    count++;
                }
            }
            return count;
        }

        int callFrom(int line) {
            for (Call call : calls) {
                if (call.state >= WAITS_FOR_REGISTER && call.state <= TALKS && call.line == line) {
                    return call.index;
                }
            }
            return NONE;
        }

        int callTo(int line) {
            for (Call call : calls) {
                if (call.state == TALKS && call.partner == line) {
                    return call.index;
                }
            }
            return NONE;
        }

        boolean isBusy(int line) {
            return callFrom(line) != NONE || callTo(line) != NONE;
        }

        int busyLines() {
            int count = 0;
            for (int index = 0; index < lineCount; index++) {
                if (isBusy(index)) {
                    count++;
                }
            }
            return count;
        }

        int cameFrom(int line) {
            int count = 0;
            for (Call call : calls) {
                if (call.state != UNTOLD && call.came && call.line == line) {
                    count++;
                }
            }
            return count;
        }

        int endedWellFrom(int line) {
            int count = 0;
            for (Call call : calls) {
                if (call.state == ENDED_WELL && call.line == line) {
                    count++;
                }
            }
            return count;
        }

        int busyTrunks(int group) {
            int count = 0;
            for (Call call : calls) {
                if (call.state == TALKS && call.group == group) {
                    count++;
                }
            }
            return count;
        }

        int allOverflows() {
            int count = 0;
            for (Group group : groups) {
                if (group.index < groupCount) {
                    count += group.overflows;
                }
            }
            return count;
        }

        int registerOf(int call) {
            for (Register register : registers) {
                if (register.call == call) {
                    return register.index;
                }
            }
            return NONE;
        }

        /** The call that has waited longest in a state of waiting; null if none waits. */
        Call firstWaiting(int state) {
            Call first = null;
            for (Call call : calls) {
                if (call.state == state && (first == null || call.place < first.place)) {
                    first = call;
                }
            }
            return first;
        }

        void hangUp(Call call) {
            freeRegisterOf(call);
            for (Marker marker : markers) {
                if (marker.call == call.index) {
                    marker.serve(NONE, 0);
                }
            }
            call.end(HUNG_UP, time);
        }

        void tick() {
            time++;
            letCallsCome();
            letCallsTalk();
            letMarkersWork();
            letRegistersDial();
            giveMarkers();
            giveRegisters();
            countTick();
        }

        /** Passes ticks as long as a call's state can still change; time and traffic are of no account then. */
        void settle(int ticks) {
            for (int tick = 0; tick < ticks && hasOpenCall(); tick++) {
                tick();
            }
        }

        private boolean hasOpenCall() {
            for (Call call : calls) {
                if (call.state >= TO_COME && call.state <= TALKS) {
                    return true;
                }
            }
            return false;
        }

        private void letCallsCome() {
            int waiting = countIn(WAITS_FOR_REGISTER);
            for (Call call : calls) {
                if (call.state == TO_COME && call.comes == time) {
                    call.came = true;
                    boolean tooMany = waiting >= guard;
                    guardRefused = guardRefused || tooMany;
                    if (tooMany || isBusy(call.line)) {
                        call.end(REFUSED, time);
                    } else {
                        queueUp(call, WAITS_FOR_REGISTER);
                        waiting++;
                    }
                }
            }
        }

        private void queueUp(Call call, int state) {
            lastPlace++;
            call.place = lastPlace;
            call.state = state;
        }

        private void letCallsTalk() {
            for (Call call : calls) {
                if (call.state == TALKS) {
                    call.left--;
                    if (call.left <= 0) {
                        call.end(ENDED_WELL, time);
                    }
                }
            }
        }

        private void letMarkersWork() {
            for (Marker marker : markers) {
                Call call = callAt(marker.call);
                if (call != null) {
                    marker.left--;
                    if (marker.left <= 0) {
                        marker.serve(NONE, 0);
                        findWay(call);
                    }
                }
            }
        }

        private void findWay(Call call) {
            int row = dialledBy(call);
            freeRegisterOf(call);
            int called = lineWith(row);
            Route route = routeFor(row);
            if (called != NONE && isBusy(called)) {
                call.end(LINE_BUSY, time);
            } else if (called != NONE) {
                call.partner = called;
                call.beginToTalk(time);
            } else if (route != null) {
                takeTrunk(call, route, freeChoice(route));
            } else {
                call.end(BLOCKED, time);
            }
        }

        private int dialledBy(Call call) {
            Register register = registerAt(registerOf(call.index));
            return register == null ? Rows.EMPTY : register.row;
        }

        private void freeRegisterOf(Call call) {
            Register register = registerAt(registerOf(call.index));
            if (register != null) {
                register.serve(NONE);
            }
        }

        private void takeTrunk(Call call, Route route, int chosen) {
            int missed = chosen == NONE ? route.choiceCount : chosen;
            for (int k = 0; k < missed; k++) {
                Group full = groupAt(route.choiceAt(k));
                if (full != null) {
                    full.overflows++;
                }
            }
            Group group = groupAt(route.choiceAt(chosen));
            if (group == null) {
                call.end(BLOCKED, time);
            } else {
                group.begun++;
                group.begunOtherwise += chosen > 0 ? 1 : 0;
                call.group = group.index;
                call.beginToTalk(time);
            }
        }

        /** The place, among the choices of a route, of the first group that is free; NONE if none is. */
        private int freeChoice(Route route) {
            for (int k = 0; k < route.choiceCount; k++) {
                Group group = groupAt(route.choiceAt(k));
                if (group != null && group.trunks - busyTrunks(group.index) > (k == 0 ? 0 : group.held)) {
                    return k;
                }
            }
            return NONE;
        }

        private void letRegistersDial() {
            for (Register register : registers) {
                Call call = callAt(register.call);
                if (call != null && call.state == DIALS) {
                    dialOn(register, call);
                }
            }
        }

        private void dialOn(Register register, Call call) {
            int length = Rows.lengthOf(call.row);
            int dialled = Rows.lengthOf(register.row);
            if (dialled < length && !isComplete(register.row)) {
                register.row = Rows.with(register.row, Rows.digitAt(call.row, dialled));
                dialled++;
            }
            if (isComplete(register.row)) {
                queueUp(call, WAITS_FOR_MARKER);
            } else if (dialled >= length) {
                register.waited++;
                // a rule may have made the timeout shorter than what was waited already
                if (register.waited >= timeout) {
                    register.serve(NONE);
                    call.end(GIVEN_UP, time);
                }
            }
        }

        private void giveMarkers() {
            for (Marker marker : markers) {
                Call call = firstWaiting(WAITS_FOR_MARKER);
                if (call != null && marker.index < markerCount && marker.call == NONE) {
                    marker.serve(call.index, work);
                    call.state = HAS_MARKER;
                }
            }
        }

        private void giveRegisters() {
            for (Register register : registers) {
                Call call = firstWaiting(WAITS_FOR_REGISTER);
                if (call != null && register.index < registerCount && register.call == NONE) {
                    register.serve(call.index);
                    call.state = DIALS;
                }
            }
        }

        private void countTick() {
            longestQueue = Math.max(longestQueue, countIn(WAITS_FOR_REGISTER));
            for (Group group : groups) {
                if (group.index < groupCount) {
                    group.busyTicks += busyTrunks(group.index);
                }
            }
        }
    }

    /** What was before each of the latest changes: rows in a ring, of which the oldest is written over. */
    private static final class History {
        private final Exchange[] past;
        private int newest;
        private int kept;

        History() {
            past = new Exchange[CHANGES_KEPT];
            for (int k = 0; k < past.length; k++) {
                past[k] = new Exchange();
            }
            newest = 0;
            kept = 0;
        }

        void keep(Exchange before) {
            newest = newest + 1 < past.length ? newest + 1 : 0;
            if (newest >= 0 && newest < past.length) {
                past[newest].copyFrom(before);
                kept = Math.min(kept + 1, past.length);
            }
        }

        /** Makes an exchange as it was before the latest change; tells how many changes are left, -1 if none was. */
        int takeBack(Exchange into) {
            if (kept <= 0 || newest < 0 || newest >= past.length) {
                return -1;
            }
            into.copyFrom(past[newest]);
            newest = newest > 0 ? newest - 1 : past.length - 1;
            kept--;
            return kept;
        }
    }

    /** Reads a setup text; as all checks of a token come before the next token, the first error found is due. */
    private static final class SetupReader {
        private static final int END = 0;
        private static final int DIGITS = 1;
        private static final int WORD = 2;
        private static final int SEMICOLON = 3;
        private static final int OTHER = 4;
        private static final int TOO_GREAT = 1000;

        final Exchange told;
        int errorAt;
        private int error;
        private byte[] text;
        private int end;
        private int at;
        private boolean guardTold;
        private boolean timeoutTold;
        private boolean workTold;

        private int kind;
        private int start;
        private int size;
        private int number;
        private int row;
        private long name;

        SetupReader() {
            told = new Exchange();
            text = new byte[0];
        }

        /** The error code of the first error; 0 if there is none. */
        int readSetup(byte[] bytes, int length) {
            text = bytes;
            end = length;
            at = 0;
            error = 0;
            errorAt = NONE;
            guardTold = false;
            timeoutTold = false;
            workTold = false;
            advance();
            boolean fine = readSize();
            for (int statement = 0; statement < BUFFER_SIZE && fine && kind != END; statement++) {
                fine = readStatement() && passSemicolon();
            }
            return error;
        }

        private boolean readSize() {
            if (!isWord("exchange")) {
                return fail(SYNTAX_ERROR);
            }
            advance();
            if (!checkNumber(1, MOST_REGISTERS)) {
                return false;
            }
            int registers = number;
            advance();
            if (!checkNumber(1, MOST_MARKERS)) {
                return false;
            }
            told.tellSize(registers, number);
            advance();
            return passSemicolon();
        }

        private boolean readStatement() {
            if (isWord("line")) {
                return readLine();
            }
            if (isWord("group")) {
                return readGroup();
            }
            if (isWord("route")) {
                return readRoute();
            }
            if (isWord("call")) {
                return readCall();
            }
            return readRule();
        }

        private boolean readLine() {
            if (told.lineCount >= MOST_LINES) {
                return fail(TOO_MANY);
            }
            advance();
            if (!checkDigits(MOST_DIGITS)) {
                return false;
            }
            if (told.lineWith(row) != NONE) {
                return fail(NAME_ERROR);
            }
            told.tellLine(row);
            advance();
            return true;
        }

        private boolean readGroup() {
            if (told.groupCount >= MOST_GROUPS) {
                return fail(TOO_MANY);
            }
            advance();
            if (!checkName()) {
                return false;
            }
            long newName = name;
            if (told.groupNamed(newName) != NONE) {
                return fail(NAME_ERROR);
            }
            advance();
            if (!checkNumber(1, MOST_TRUNKS)) {
                return false;
            }
            int trunks = number;
            advance();
            if (!checkNumber(0, trunks - 1)) {
                return false;
            }
            told.tellGroup(newName, trunks, number);
            advance();
            return true;
        }

        private boolean readRoute() {
            if (told.routeCount >= MOST_ROUTES) {
                return fail(TOO_MANY);
            }
            advance();
            if (!checkDigits(MOST_PREFIX_DIGITS)) {
                return false;
            }
            int prefix = row;
            if (told.hasPrefix(prefix)) {
                return fail(NAME_ERROR);
            }
            advance();
            if (!checkNumber(Rows.lengthOf(prefix), MOST_DIGITS)) {
                return false;
            }
            Route route = told.tellRoute(prefix, number);
            advance();
            boolean fine = route != null && readChoice(route);
            for (int more = 1; more < MOST_CHOICES && fine && kind == WORD; more++) {
                fine = readChoice(route);
            }
            return fine;
        }

        private boolean readChoice(Route route) {
            if (!checkName()) {
                return false;
            }
            int group = told.groupNamed(name);
            if (group == NONE || route.hasChoice(group)) {
                return fail(NAME_ERROR);
            }
            route.addChoice(group);
            advance();
            return true;
        }

        private boolean readCall() {
            if (told.callCount >= MOST_CALLS) {
                return fail(TOO_MANY);
            }
            advance();
            if (kind != DIGITS) {
                return fail(SYNTAX_ERROR);
            }
            int line = told.lineWith(row);
            if (line == NONE) {
                return fail(NAME_ERROR);
            }
            advance();
            if (!checkDigits(MOST_DIGITS)) {
                return false;
            }
            int dialled = row;
            advance();
            if (!checkNumber(1, MOST_TALK)) {
                return false;
            }
            int talk = number;
            advance();
            if (!checkNumber(1, LATEST_TIME)) {
                return false;
            }
            told.tellCall(line, dialled, talk, number);
            advance();
            return true;
        }

        private boolean readRule() {
            int what;
            if (isWord("guard") && !guardTold) {
                what = GUARD;
                guardTold = true;
            } else if (isWord("timeout") && !timeoutTold) {
                what = TIMEOUT;
                timeoutTold = true;
            } else if (isWord("work") && !workTold) {
                what = WORK;
                workTold = true;
            } else {
                return fail(SYNTAX_ERROR);
            }
            advance();
            if (!checkNumber(1, mostOf(what))) {
                return false;
            }
            told.setRule(what, number);
            advance();
            return true;
        }

        private boolean passSemicolon() {
            if (kind != SEMICOLON) {
                return fail(SYNTAX_ERROR);
            }
            advance();
            return true;
        }

        private boolean checkNumber(int least, int most) {
            if (kind != DIGITS) {
                return fail(SYNTAX_ERROR);
            }
            if (number < least || number > most) {
                return fail(OUT_OF_RANGE);
            }
            return true;
        }

        private boolean checkDigits(int most) {
            if (kind != DIGITS) {
                return fail(SYNTAX_ERROR);
            }
            if (size > most) {
                return fail(OUT_OF_RANGE);
            }
            return true;
        }

        private boolean checkName() {
            if (kind != WORD) {
                return fail(SYNTAX_ERROR);
            }
            if (size > MOST_LETTERS) {
                return fail(OUT_OF_RANGE);
            }
            return true;
        }

        /** Notes an error at the token that is read; answers false, for its callers to answer too. */
        private boolean fail(int code) {
            error = code;
            errorAt = start;
            return false;
        }

        private boolean isWord(String wanted) {
            if (kind != WORD || size != wanted.length()) {
                return false;
            }
            for (int k = 0; k < wanted.length(); k++) {
                if (signAt(start + k) != wanted.charAt(k)) {
                    return false;
                }
            }
            return true;
        }

        private void advance() {
            while (at < end && signAt(at) == ' ') {
                at++;
            }
            start = at;
            size = 0;
            number = 0;
            row = Rows.EMPTY;
            name = 0;
            kind = at < end ? kindOf(signAt(at)) : END;
            boolean goesOn = true;
            while (at < end && goesOn) {
                addToToken(signAt(at));
                at++;
                goesOn = (kind == DIGITS || kind == WORD) && kindOf(signAt(at)) == kind;
            }
        }

        private static int kindOf(int sign) {
            if (sign >= '0' && sign <= '9') {
                return DIGITS;
            }
            if (sign >= 'a' && sign <= 'z') {
                return WORD;
            }
            return sign == ';' ? SEMICOLON : OTHER;
        }

        private void addToToken(int sign) {
            if (kind == DIGITS) {
                number = number < TOO_GREAT ? number * 10 + (sign - '0') : TOO_GREAT;
                row = size < MOST_DIGITS ? row * 10 + (sign - '0') : NO_ROW;
            } else if (kind == WORD) {
                name = size < MOST_LETTERS ? name * 27 + (sign - 'a' + 1) : 0;
            }
            size++;
        }

        private int signAt(int offset) {
            return offset >= 0 && offset < end && offset < text.length ? text[offset] : 0;
        }
    }
}
