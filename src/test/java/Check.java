/** Counts the answers of a test that are not as due, and ends the test with exit code 1 if there are any. */
final class Check {
    /** Something that answers or throws. */
    interface Call {
        long answer();
    }

    /** Makes the same ledge each time, so that every call in question has one of its own. */
    interface Maker {
        LearnedLedge make();
    }

    /** A call on some ledge. */
    interface Use {
        long on(LearnedLedge ledge);
    }

    private static int wrong = 0;
    private static int checked = 0;

    private Check() {
    }

    static void due(String what, long want, long got) {
        checked++;
        if (got != want) {
            report(what + " answered " + got + ", due is " + want);
        }
    }

    static void due(String what, String want, String got) {
        checked++;
        if (!want.equals(got)) {
            report(what + " answered " + got + ", due is " + want);
        }
    }

    /** The call has to answer just this, on a ledge of its own. */
    static void allowed(String what, long want, Maker maker, Use use) {
        LearnedLedge asked = maker.make();
        due(what, Long.toString(want), answerOf(() -> use.on(asked)));
    }

    /** The call has to throw just this exception, and to leave no trace, then and later. */
    static void refused(String what, Class<?> exception, Maker maker, Use use) {
        LearnedLedge asked = maker.make();
        due(what, exception.getName(), answerOf(() -> use.on(asked)));
        due(what + " changes nothing:", outlook(maker.make()), outlook(asked));
    }

    /** The answer as a text, or the name of the exception. */
    static String answerOf(Call call) {
        try {
            return Long.toString(call.answer());
        } catch (RuntimeException thrown) {
            return thrown.getClass().getName();
        }
    }

    /** What can be seen of a ledge with few keys, by fewer than 110 calls. */
    static String looksLike(LearnedLedge ledge) {
        StringBuilder text = new StringBuilder();
        text.append("keys");
        int size = ledge.size();
        for (int place = 0; place < Math.min(size, 30); place++) {
            text.append(' ').append(ledge.select(place));
        }
        int pieces = ledge.pieces();
        text.append(" pieces");
        for (int piece = 0; piece < Math.min(pieces, 10); piece++) {
            text.append(' ').append(ledge.start(piece)).append(':').append(ledge.firstKey(piece));
            text.append(':').append(ledge.rise(piece)).append('/').append(ledge.run(piece));
        }
        text.append(" size ").append(size).append(" pieces ").append(pieces);
        text.append(" row ").append(ledge.rowSize()).append(" marked ").append(ledge.marked());
        text.append(" buffered ").append(ledge.buffered()).append(" merges ").append(ledge.merges());
        text.append(" splits ").append(ledge.splits()).append(" joins ").append(ledge.joins());
        return text.toString();
    }

    /** What can be seen, and what comes of it: this shows the bound, the room and the last piece too. */
    private static String outlook(LearnedLedge ledge) {
        StringBuilder text = new StringBuilder(looksLike(ledge));
        text.append(" worst ").append(ledge.worstError()).append(" places");
        for (int key = -5; key < 40; key++) {
            text.append(' ').append(ledge.place(key));
        }
        text.append(" then");
        for (int key : new int[] {620, 999990, 999999}) {
            text.append(' ').append(answerOf(() -> ledge.append(key)));
        }
        for (int key = -16; key < 0; key++) {
            int late = key;
            text.append(' ').append(answerOf(() -> ledge.insert(late)));
        }
        text.append(' ').append(answerOf(() -> ledge.remove(20))).append(' ').append(ledge.merge());
        return text.append(' ').append(looksLike(ledge)).toString();
    }

    static void end(String test) {
        System.out.println(test + ": " + checked + " answers, " + wrong + " not as due");
        if (wrong != 0) {
            System.exit(1);
        }
    }

    private static void report(String text) {
        wrong++;
        if (wrong <= 50) {
            System.out.println(text);
        }
    }
}
