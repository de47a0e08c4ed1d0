/** Counts the answers of a test that are not as due, and ends the test with exit code 1 if there are any. */
final class Check {
    /** Something that answers or throws. */
    interface Call {
        long answer();
    }

    private static int wrong = 0;
    private static int checked = 0;

    private Check() {
    }

    static void due(String what, long want, long got) {
        checked++;
        if (got != want) {
            report(what + " answered " + got + ", due is " + want);
        }
    }

    static void due(String what, String want, String got) {
        checked++;
        if (!want.equals(got)) {
            report(what + " answered " + got + ", due is " + want);
        }
    }

    /** The call has to throw just this exception, and the ledge has to look as before. */
    static void throwsDue(String what, LearnedLedge ledge, Class<?> exception, Call call) {
        String before = looksLike(ledge);
        due(what, exception.getName(), answerOf(call));
        due(what + " changes nothing:", before, looksLike(ledge));
    }

    /** The answer as a text, or the name of the exception. */
    static String answerOf(Call call) {
        try {
            return Long.toString(call.answer());
        } catch (RuntimeException thrown) {
            return thrown.getClass().getName();
        }
    }

    /** What can be seen of a ledge with few keys, by few calls. */
    static String looksLike(LearnedLedge ledge) {
        StringBuilder text = new StringBuilder();
        text.append("keys");
        for (int place = 0; place < Math.min(ledge.size(), 30); place++) {
            text.append(' ').append(ledge.select(place));
        }
        text.append(" pieces");
        for (int piece = 0; piece < Math.min(ledge.pieces(), 10); piece++) {
            text.append(' ').append(ledge.start(piece)).append(':').append(ledge.firstKey(piece));
            text.append(':').append(ledge.rise(piece)).append('/').append(ledge.run(piece));
        }
        text.append(" size ").append(ledge.size()).append(" pieces ").append(ledge.pieces());
        text.append(" row ").append(ledge.rowSize()).append(" marked ").append(ledge.marked());
        text.append(" buffered ").append(ledge.buffered()).append(" merges ").append(ledge.merges());
        text.append(" splits ").append(ledge.splits()).append(" joins ").append(ledge.joins());
        return text.toString();
    }

    static void end(String test) {
        System.out.println(test + ": " + checked + " answers, " + wrong + " not as due");
        if (wrong != 0) {
            System.exit(1);
        }
    }

    private static void report(String text) {
        wrong++;
        if (wrong <= 50) {
            System.out.println(text);
        }
    }
}
