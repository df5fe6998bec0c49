import java.util.List;

/** Counts the answers that are not as due, and puts texts into an exchange. */
final class Checks {
    private int wrong = 0;

    interface Asked {
        void run();
    }

    /** Makes the same exchange each time. */
    interface Maker {
        ExchangeControl made();
    }

    interface Call {
        void on(ExchangeControl x);
    }

    void due(String what, long got, long want) {
        if (got != want) {
            wrong++;
            System.out.println(what + " answered " + got + ", due is " + want);
        }
    }

    void dueFloat(String what, float got, float want) {
        if (got != want) {
            wrong++;
            System.out.println(what + " answered " + got + ", due is " + want);
        }
    }

    void dueThrow(String what, Class<?> want, Asked asked) {
        String got = "nothing";
        try {
            asked.run();
        } catch (RuntimeException thrown) {
            if (thrown.getClass() == want) {
                return;
            }
            got = thrown.toString();
        }
        wrong++;
        System.out.println(what + " threw " + got + ", due is " + want.getSimpleName());
    }

    /** A refused call throws what is due, and leaves the exchange like a twin that was not called. */
    void refused(String what, Class<?> want, Maker maker, Call call) {
        ExchangeControl x = maker.made();
        dueThrow(what, want, () -> call.on(x));
        alike("refused " + what, x, maker.made());
    }

    /** Two exchanges answer alike in all that can be asked; both are used up. */
    void alike(String what, ExchangeControl x, ExchangeControl twin) {
        List<String> got = Transcript.of(x);
        List<String> want = Transcript.of(twin);
        for (int k = 0; k < got.size() || k < want.size(); k++) {
            String gotLine = k < got.size() ? got.get(k) : "nothing";
            String wantLine = k < want.size() ? want.get(k) : "nothing";
            if (!gotLine.equals(wantLine)) {
                wrong++;
                System.out.println(what + ": told " + gotLine + ", due is " + wantLine);
                return;
            }
        }
    }

    /** A text that has its first error where the bar stands. */
    void wrongText(int code, String marked) {
        ExchangeControl x = new ExchangeControl();
        int offset = marked.indexOf('|');
        String text = marked.replace("|", "");
        due(marked, loaded(x, text), code);
        due("offset in " + marked, x.errorOffset(), offset);
    }

    void end() {
        System.out.println(wrong == 0 ? "all answers are as due" : wrong + " answers are not as due");
        if (wrong != 0) {
            System.exit(1);
        }
    }

    /** Appends a text, filled up with spaces to a multiple of 20 bytes; the last answer of append. */
    static int put(ExchangeControl x, String text) {
        int filled = -1;
        for (int start = 0; start < text.length(); start += 20) {
            int[] words = new int[5];
            for (int k = 0; k < 20; k++) {
                int sign = start + k < text.length() ? text.charAt(start + k) : ' ';
                words[k / 4] = words[k / 4] << 8 | sign & 255;
            }
            filled = x.append(words[0], words[1], words[2], words[3], words[4]);
        }
        return filled;
    }

    /** A text many times over, each time with its number, from 0, in place of %d. */
    static String times(int count, String format) {
        StringBuilder text = new StringBuilder();
        for (int k = 0; k < count; k++) {
            text.append(String.format(format, k));
        }
        return text.toString();
    }

    static int loaded(ExchangeControl x, String text) {
        put(x, text);
        return x.load(text.length());
    }

    static ExchangeControl fresh(String text) {
        ExchangeControl x = new ExchangeControl();
        if (loaded(x, text) < 0) {
            throw new IllegalStateException("not a setup text: " + text + " at " + x.errorOffset());
        }
        return x;
    }

    /** A new exchange with such a setup that has passed some ticks. */
    static ExchangeControl at(int ticks, String text) {
        ExchangeControl x = fresh(text);
        x.pass(ticks);
        return x;
    }

    /** Dials at once with an empty buffer. */
    static int dialled(ExchangeControl x, int line, String digits, int talk) {
        put(x, digits);
        return x.dial(line, digits.length(), talk);
    }
}
