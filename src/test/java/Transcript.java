import java.util.ArrayList;
import java.util.List;

/** Writes down all that an exchange answers, so that two can be held against one another; uses the exchange up. */
final class Transcript {
    private static final int SPACES = 0x20202020;

    private Transcript() {
    }

    static List<String> of(ExchangeControl x) {
        List<String> told = new ArrayList<>();
        told.add("errorOffset " + x.errorOffset());
        told.add("bestGuard " + x.bestGuard());
        data(x, told);
        looks(x, told);
        changes(x, told);
        buffer(x, told);
        return told;
    }

    private static void data(ExchangeControl x, List<String> told) {
        told.add("checksum " + x.checksum());
        told.add("foremost " + x.foremost(false) + " " + x.foremost(true));
        told.add("service " + x.service());
        for (int group = 0; group < x.state(3); group++) {
            told.add("traffic " + x.traffic(group));
        }
        for (int call = 0; call < x.state(5); call++) {
            StringBuilder digits = new StringBuilder();
            for (int k = 0; k < x.call(call, 1); k++) {
                digits.append(x.digit(call, k));
            }
            told.add("digits " + digits);
        }
        // what is not told, as the order of waiting and the routes, shows in what comes
        for (int state = 0; state <= 11; state++) {
            told.add("foretold " + x.foretold(7, state) + " " + x.foretold(40, state));
        }
    }

    private static void looks(ExchangeControl x, List<String> told) {
        for (int length = 1; length <= 6; length++) {
            for (int what = 0; what <= 3; what++) {
                told.add("look " + length + " " + what + " " + looked(x, length, what));
            }
        }
    }

    private static String looked(ExchangeControl x, int length, int what) {
        try {
            return "answers " + x.look(length, what);
        } catch (IllegalArgumentException thrown) {
            return "throws " + thrown.getClass();
        }
    }

    private static void changes(ExchangeControl x, List<String> told) {
        int left = x.undo();
        while (left >= 0) {
            told.add("undo " + left);
            data(x, told);
            left = x.undo();
        }
        data(x, told);
    }

    /** A buffer that holds a setup text shows all of it as it is read. */
    private static void buffer(ExchangeControl x, List<String> told) {
        int length = x.append(SPACES, SPACES, SPACES, SPACES, SPACES);
        told.add("length " + length);
        told.add("load " + x.load(length < 0 ? 700 : length));
        told.add("errorOffset " + x.errorOffset());
        data(x, told);
    }
}
