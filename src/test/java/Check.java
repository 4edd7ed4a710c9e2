import java.util.NoSuchElementException;

/** What the tests share: answers counted, texts fed, texts fetched. */
final class Check {
    /** What fetch answers for a place of the text that there is none of. */
    static final int THROWS = -1000;

    private final String test;
    private int wrong;
    private int checked;

    Check(String test) {
        this.test = test;
    }

    void due(String call, long got, long want) {
        checked++;
        if (got != want) {
            wrong++;
            System.out.println(test + ": " + call + " answered " + got + ", due is " + want);
        }
    }

    void due(String call, boolean got, boolean want) {
        due(call, got ? 1L : 0L, want ? 1L : 0L);
    }

    void due(String call, String got, String want) {
        checked++;
        if (!got.equals(want)) {
            wrong++;
            System.out.println(test + ": " + call + " answered \"" + got + "\", due is \"" + want + "\"");
        }
    }

    void finish() {
        System.out.println(test + ": " + checked + " answers, " + wrong + " not as due");
        if (wrong != 0 || checked == 0) {
            System.exit(1);
        }
    }

    /** Feeds a text to an empty tape. */
    static boolean tape(MappingDesk desk, String text) {
        boolean good = true;
        for (int i = 0; i < text.length(); i += 20) {
            good &= desk.feed(four(text, i), four(text, i + 4), four(text, i + 8), four(text, i + 12),
                    four(text, i + 16));
        }
        return good & desk.end(text.length());
    }

    private static int four(String text, int from) {
        int number = 0;
        for (int i = from; i < from + 4; i++) {
            number = number << 8 | (i < text.length() ? text.charAt(i) & 255 : 0);
        }
        return number;
    }

    static int read(MappingDesk desk, int table, String text) {
        tape(desk, text);
        return desk.read(table);
    }

    static int fetch(MappingDesk desk, int i) {
        try {
            return desk.textAt(i);
        } catch (NoSuchElementException none) {
            return THROWS;
        }
    }

    static String text(MappingDesk desk, int length) {
        StringBuilder text = new StringBuilder();
        for (int i = 0; i < length; i++) {
            text.append((char) fetch(desk, i));
        }
        return text.toString();
    }

    static String written(MappingDesk desk, int table) {
        return text(desk, desk.write(table));
    }

    /** The whole text, up to the first place that there is none of. */
    static String wholeText(MappingDesk desk) {
        StringBuilder text = new StringBuilder();
        for (int i = 0; fetch(desk, i) != THROWS; i++) {
            text.append((char) fetch(desk, i));
        }
        return text.toString();
    }

    /**
     * All that a desk holds, as its answers show it: the text, the fault, both tables, and the tape by
     * what a read of it makes of table 1. The desk is another one afterwards.
     */
    static String state(MappingDesk desk) {
        String state = "text " + wholeText(desk) + " fault " + desk.fault();
        state += " zero " + desk.size(0) + " " + written(desk, 0);
        state += " one " + desk.size(1) + " " + written(desk, 1);
        return state + " tape " + desk.read(1) + " " + desk.fault() + " " + written(desk, 1);
    }

    /** The text of one segment of these numbers. */
    static String segment(long... numbers) {
        StringBuilder text = new StringBuilder();
        for (long number : numbers) {
            text.append(Model.numberText(number));
        }
        return text.toString();
    }

    /** All that a place is told: source, line, column, name, number. */
    static String asked(MappingDesk desk, int table, int line, int column) {
        StringBuilder all = new StringBuilder();
        for (int what = 0; what <= 4; what++) {
            all.append(what == 0 ? "" : " ").append(desk.ask(table, line, column, what));
        }
        return all.toString();
    }

    /** A table of so many segments on line 0, each with a column of its own, in few calls. */
    static int readMany(MappingDesk desk, int table, int segments) {
        return read(desk, table, "A" + ",C".repeat(segments - 1));
    }
}
