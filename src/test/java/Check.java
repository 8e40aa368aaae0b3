import java.nio.charset.StandardCharsets;
import java.util.NoSuchElementException;

/** What the tests share: a call's answer against the one that is due, and texts put on the tape. */
final class Check {
    private static int wrong = 0;
    private static String test = "";

    interface Call {
        int answer();
    }

    private Check() {
    }

    /** What is wrong from here on is told with this ahead of it. */
    static void within(String name) {
        test = name;
    }

    static void due(String what, long want, long got) {
        if (want != got) {
            wrong++;
            System.out.println(test + what + " answered " + got + ", due is " + want);
        }
    }

    static void same(String what, String want, String got) {
        if (!want.equals(got)) {
            wrong++;
            System.out.println(test + what + ": '" + got + "', due is '" + want + "'");
        }
    }

    static void due(String what, boolean want, boolean got) {
        due(what, want ? 1 : 0, got ? 1 : 0);
    }

    static void throwsNoSuch(String what, Call call) {
        try {
            int got = call.answer();
            wrong++;
            System.out.println(test + what + " answered " + got + ", due is NoSuchElementException");
        } catch (NoSuchElementException e) {
            return;
        }
    }

    /** The tape has this text alone. */
    static void tape(Bells x, String text) {
        tape(x, text.getBytes(StandardCharsets.ISO_8859_1));
    }

    static void tape(Bells x, byte[] bytes) {
        x.end(0);
        for (int i = 0; i < bytes.length; i += 20) {
            x.feed(four(bytes, i), four(bytes, i + 4), four(bytes, i + 8), four(bytes, i + 12), four(bytes, i + 16));
        }
        due("end(" + bytes.length + ")", true, x.end(bytes.length));
    }

    private static int four(byte[] bytes, int from) {
        int number = 0;
        for (int i = from; i < from + 4; i++) {
            number = number << 8 | (i < bytes.length ? bytes[i] & 255 : 0);
        }
        return number;
    }

    static int river(Bells x, String text) {
        tape(x, text);
        return x.river();
    }

    static int order(Bells x, String text) {
        tape(x, text);
        return x.order();
    }

    static int sentence(Bells x, String text) {
        tape(x, text);
        return x.sentence();
    }

    static int days(Bells x, int hour, int... guilds) {
        byte[] bytes = new byte[guilds.length];
        for (int i = 0; i < guilds.length; i++) {
            bytes[i] = (byte) guilds[i];
        }
        tape(x, bytes);
        return x.days(hour);
    }

    static void riverTaken(Bells x, String text, int lines) {
        due("river of '" + text + "'", lines, river(x, text));
        due("fault of '" + text + "'", 0, x.fault());
    }

    static void orderTaken(Bells x, String text, int bells) {
        due("order of '" + text + "'", bells, order(x, text));
        due("fault of '" + text + "'", 0, x.fault());
    }

    static void sentenceTaken(Bells x, String text, int ones) {
        due("sentence of '" + text + "'", ones, sentence(x, text));
        due("fault of '" + text + "'", 0, x.fault());
    }

    static void riverFault(Bells x, String text, int kind, int place) {
        due("river of '" + text + "'", -1 - place, river(x, text));
        due("fault of '" + text + "'", kind, x.fault());
    }

    static void orderFault(Bells x, String text, int kind, int place) {
        due("order of '" + text + "'", -1 - place, order(x, text));
        due("fault of '" + text + "'", kind, x.fault());
    }

    static void sentenceFault(Bells x, String text, int kind, int place) {
        due("sentence of '" + text + "'", -1 - place, sentence(x, text));
        due("fault of '" + text + "'", kind, x.fault());
    }

    /** 'head', blanks up to the place 'till', and 'tail'. */
    static String padded(String head, int till, String tail) {
        return head + " ".repeat(till - head.length()) + tail;
    }

    static void close() {
        if (wrong != 0) {
            System.out.println(wrong + " wrong");
            System.exit(1);
        }
    }
}
