/** The bounds that stand under 'Terms' and 'What it is': each one, and a step to either side of it. */
public final class TermsTest {
    private static final Check CHECK = new Check("TermsTest");
    private static final int MAX = Integer.MAX_VALUE;
    private static final int MIN = Integer.MIN_VALUE;
    /** The last column, source, source's line, source's column and name. */
    private static final int[] LAST = {999999, 99, 999999, 999999, 99};
    private static final String[] CALLED = {"column", "source", "source's line", "source's column", "name"};

    public static void main(String[] args) {
        usesAnObjectFor512Calls();
        putsWithinBounds();
        putsOnLines0To199();
        readsWithinBounds();
        readsDifferencesWithinBounds();
        readsOnLines0To199();
        putsAtMost300Segments();
        readsAtMost300Segments();
        ordersByLineThenColumn();
        keepsSeveralOfOnePlaceAsTheyCame();
        writesNumbersOfEachLength();
        readsNumbersOfEachLength();
        readsEveryDigit();
        takesASignWithSizeZeroForZero();
        CHECK.finish();
    }

    // "An object is used for at most 512 calls after it has been made"
    private static void usesAnObjectFor512Calls() {
        MappingDesk desk = new MappingDesk();
        for (int call = 1; call <= 300; call++) {
            CHECK.due("call " + call + ", put", desk.put(1, call % 200, call, 1, 2, 3, 4), call);
        }
        CHECK.due("call 301, clear(1)", desk.clear(1), true);
        for (int call = 302; call <= 509; call++) {
            CHECK.due("call " + call + ", put", desk.put(1, 0, call, 1, 2, 3, 4), call - 301);
        }
        CHECK.due("call 510, ask", desk.ask(1, 0, 508, 4), 206);
        CHECK.due("call 511, write(1)", desk.write(1), 6 + 207 * 6);
        CHECK.due("call 512, textAt", Check.fetch(desk, 6), ',');
    }

    private static boolean isGood(int which, long value) {
        return value >= 0 && value <= LAST[which];
    }

    private static int putOne(MappingDesk desk, int which, int value) {
        int[] all = {1, 1, 1, 1, 1};
        all[which] = value;
        return desk.put(0, 5, all[0], all[1], all[2], all[3], all[4]);
    }

    // "A PLACE is a line and a column, each 0 .. 999999", "a SOURCE 0 .. 99", "a NAME 0 .. 99"
    private static void putsWithinBounds() {
        for (int which = 0; which < LAST.length; which++) {
            int last = LAST[which];
            for (int value : new int[] {MIN, -2, -1, 0, 1, last - 1, last, last + 1, last + 2, MAX}) {
                String call = "put with " + CALLED[which] + " " + value;
                MappingDesk desk = new MappingDesk();
                // A source or a name below 0 is no wrong one: it says that there is none.
                boolean isLeftOut = value < 0 && (which == 1 || which == 4);
                boolean isPut = isGood(which, value) || isLeftOut;
                CHECK.due(call, putOne(desk, which, value), isPut ? 1 : MappingDesk.NONE);
                CHECK.due("size(0) after " + call, desk.size(0), isPut ? 1 : 0);
                if (isGood(which, value)) {
                    checkOne(desk, which, value, call);
                } else {
                    CHECK.due("written after " + call, Check.written(desk, 0),
                            !isPut ? "" : which == 1 ? ";;;;;C" : ";;;;;CCCC");
                }
            }
        }
    }

    /** Table 0 has one segment alone, on line 5, with 1 for all but one of its numbers. */
    private static void checkOne(MappingDesk desk, int which, int value, String call) {
        int column = which == 0 ? value : 1;
        StringBuilder told = new StringBuilder();
        for (int what = 1; what <= 4; what++) {
            told.append(what == which ? value : 1).append(' ');
        }
        CHECK.due("asked after " + call, Check.asked(desk, 0, 5, column), told + "0");
        CHECK.due("asked ahead of it after " + call, desk.ask(0, 5, column - 1, 4), MappingDesk.NONE);
    }

    // "A TABLE has .. lines 0 .. 199"
    private static void putsOnLines0To199() {
        for (int line : new int[] {MIN, -2, -1, 0, 1, 198, 199, 200, 201, 999999, 1000000, MAX}) {
            for (int source : new int[] {-1, 0}) {
                String call = "put on line " + line + " with source " + source;
                boolean isPut = line >= 0 && line <= 199;
                MappingDesk desk = new MappingDesk();
                CHECK.due(call, desk.put(1, line, 0, source, 0, 0, -1), isPut ? 1 : MappingDesk.NONE);
                CHECK.due("size(1) after " + call, desk.size(1), isPut ? 1 : 0);
                String text = isPut ? ";".repeat(line) + (source < 0 ? "A" : "AAAA") : "";
                CHECK.due("written after " + call, Check.written(desk, 1), text);
                CHECK.due("size(0) after " + call, desk.size(0), 0);
            }
        }
    }

    // Fault 4: "what comes out is out of its bounds"
    private static void readsWithinBounds() {
        for (int which = 0; which < LAST.length; which++) {
            int last = LAST[which];
            for (int value : new int[] {-MAX, -2, -1, 0, 1, last - 1, last, last + 1, last + 2, MAX}) {
                long[] numbers = {1, 1, 1, 1, 1};
                numbers[which] = value;
                String call = "read with " + CALLED[which] + " " + value;
                MappingDesk desk = new MappingDesk();
                boolean isRead = isGood(which, value);
                CHECK.due(call, Check.read(desk, 0, ";;;;;" + Check.segment(numbers)), isRead ? 1 : -2 - 5);
                CHECK.due("fault() after " + call, desk.fault(), isRead ? 0 : 4);
                CHECK.due("size(0) after " + call, desk.size(0), isRead ? 1 : 0);
                if (isRead) {
                    checkOne(desk, which, value, call);
                }
            }
        }
    }

    // The same where a difference from a segment ahead leads there, in its line and on a line behind.
    private static void readsDifferencesWithinBounds() {
        for (int which = 0; which < LAST.length; which++) {
            int last = LAST[which];
            for (int first : new int[] {0, 1, last / 2, last - 1, last}) {
                for (int second : new int[] {-1, 0, 1, last / 2 - 1, last / 2, last - 1, last, last + 1}) {
                    readDifference(which, first, second - first, ',');
                    readDifference(which, first, second - first, ';');
                }
                // These come out within 0 .. 2147483647 again where 32 bits wrap around.
                readDifference(which, first, MAX, ',');
                readDifference(which, first, -MAX, ',');
            }
        }
    }

    private static void readDifference(int which, int first, int difference, char between) {
        long[] numbers = new long[5];
        numbers[which] = first;
        String ahead = Check.segment(numbers) + between;
        numbers[which] = difference;
        String call = "read with " + CALLED[which] + " " + first + " " + between + " " + difference + " more";
        MappingDesk desk = new MappingDesk();
        boolean isNewLine = between == ';';
        long sum = which == 0 && isNewLine ? difference : (long) first + difference;
        boolean isRead = isGood(which, sum) && (which != 0 || difference >= 0);
        CHECK.due(call, Check.read(desk, 1, ahead + Check.segment(numbers)), isRead ? 2 : -2 - ahead.length());
        CHECK.due("fault() after " + call, desk.fault(), isRead ? 0 : 4);
        CHECK.due("size(1) after " + call, desk.size(1), isRead ? 2 : 0);
        if (isRead) {
            int column = which == 0 ? (int) sum : 0;
            int what = which == 0 ? 4 : which - 1;
            CHECK.due("asked after " + call, desk.ask(1, isNewLine ? 1 : 0, column, what), which == 0 ? 1 : sum);
        }
    }

    // Fault 5: "more lines .. than may be (the ;)"
    private static void readsOnLines0To199() {
        for (int line : new int[] {0, 1, 198, 199, 200, 201}) {
            for (String segment : new String[] {"", "A", "AAAA"}) {
                String call = "read of " + line + " ; and " + segment;
                int segments = segment.isEmpty() ? 0 : 1;
                boolean isRead = line <= 199;
                MappingDesk desk = new MappingDesk();
                CHECK.due(call, Check.read(desk, 0, ";".repeat(line) + segment), isRead ? segments : -2 - 199);
                CHECK.due("fault() after " + call, desk.fault(), isRead ? 0 : 5);
                CHECK.due("size(0) after " + call, desk.size(0), isRead ? segments : 0);
                CHECK.due("write(0) after " + call, desk.write(0), isRead && segments == 1 ? line + segment.length() : 0);
            }
        }
    }

    // "A TABLE has at most 300 segments"
    private static void putsAtMost300Segments() {
        for (int line : new int[] {0, 1, 2}) {
            MappingDesk desk = new MappingDesk();
            CHECK.due("read of 298 segments", Check.read(desk, 0, ";" + "A" + ",C".repeat(297)), 298);
            CHECK.due("put the 299th", desk.put(0, line, 7, 1, 2, 3, 4), 299);
            CHECK.due("put the 300th", desk.put(0, line, 7, 5, 6, 7, 8), 300);
            int length = desk.write(0);
            String asked = Check.asked(desk, 0, line, 7);
            CHECK.due("put a 301st", desk.put(0, line, 7, 9, 9, 9, 9), MappingDesk.NONE);
            CHECK.due("put a 301st at the front", desk.put(0, 0, 0, -1, 0, 0, 0), MappingDesk.NONE);
            CHECK.due("put a 301st at the end", desk.put(0, 199, 999999, 0, 0, 0, 0), MappingDesk.NONE);
            CHECK.due("size(0) then", desk.size(0), 300);
            CHECK.due("write(0) then", desk.write(0), length);
            CHECK.due("asked then", Check.asked(desk, 0, line, 7), asked);
            // Line 1's own 298 are where they were, behind what was put ahead of them.
            int ahead = line == 0 ? 2 : 0;
            int within = line == 1 ? 2 : 0;
            for (int column = 0; column < 298; column++) {
                int number = column + ahead + (column >= 7 ? within : 0);
                int tells = line == 1 && column == 7 ? number : MappingDesk.NONE;
                CHECK.due("ask of column " + column, desk.ask(0, 1, column, 4), tells);
            }
            CHECK.due("put in the other table", desk.put(1, line, 7, 9, 9, 9, 9), 1);
        }
    }

    // Fault 5: "more .. segments than may be (.. the segment's first)"
    private static void readsAtMost300Segments() {
        for (String between : new String[] {",", ";A,"}) {
            int step = between.length() == 1 ? 1 : 2;
            for (int segments : new int[] {299, 300, 301, 302}) {
                StringBuilder text = new StringBuilder("A");
                int made = 1;
                for (; made + step <= segments; made += step) {
                    text.append(between).append('A');
                }
                for (; made < segments; made++) {
                    text.append(",A");
                }
                String call = "read of " + segments + " segments with " + between;
                MappingDesk desk = new MappingDesk();
                CHECK.due(call, Check.read(desk, 1, text.toString()), segments <= 300 ? segments : -2 - 600);
                CHECK.due("fault() after " + call, desk.fault(), segments <= 300 ? 0 : 5);
                CHECK.due("size(1) after " + call, desk.size(1), segments <= 300 ? segments : 0);
                CHECK.due("write(1) after " + call, desk.write(1), segments <= 300 ? 2 * segments - 1 : 0);
            }
        }
    }

    // "in order: by line, then by column"
    private static void ordersByLineThenColumn() {
        int[][] places = {{0, 0}, {0, 1}, {0, 999999}, {1, 0}, {1, 1}, {198, 999999}, {199, 0}, {199, 999999}};
        for (int step : new int[] {1, 3, 5, 7}) {
            MappingDesk desk = new MappingDesk();
            for (int i = 0; i < places.length; i++) {
                int which = i * step % places.length;
                desk.put(0, places[which][0], places[which][1], which, 0, 0, -1);
            }
            for (int which = 0; which < places.length; which++) {
                int line = places[which][0];
                int column = places[which][1];
                CHECK.due("segment " + which + ", step " + step, Check.asked(desk, 0, line, column),
                        which + " 0 0 -1 " + which);
            }
        }
    }

    // "(of one place several, as they came)"
    private static void keepsSeveralOfOnePlaceAsTheyCame() {
        MappingDesk desk = new MappingDesk();
        CHECK.due("read", Check.read(desk, 0, "C,CIAA,AACA,E"), 4);
        CHECK.due("put at the two", desk.put(0, 0, 2, 3, 0, 0, -1), 5);
        CHECK.due("written", Check.written(desk, 0), "C,CIAA,AACA,ADDA,E");
        CHECK.due("put one step ahead", desk.put(0, 0, 1, 2, 0, 0, -1), 6);
        CHECK.due("put one step behind", desk.put(0, 0, 3, 1, 0, 0, -1), 7);
        CHECK.due("put at the three", desk.put(0, 0, 2, -1, 0, 0, -1), 8);
        CHECK.due("written", Check.written(desk, 0), "C,AEAA,CEAA,AACA,ADDA,A,CFAA,C");
    }

    private static final int[] NUMBERS = {0, 1, 14, 15, 16, 17, 510, 511, 512, 16383, 16384, 524287, 524288, 999998,
        999999};
    private static final String[] PLUS = {"A", "C", "c", "e", "gB", "iB", "8f", "+f", "ggB", "+/f", "gggB", "+//f",
        "ggggB", "8jh9B", "+jh9B"};
    private static final String[] MINUS = {"A", "D", "d", "f", "hB", "jB", "9f", "/f", "hgB", "//f", "hggB", "///f",
        "hgggB", "9jh9B", "/jh9B"};

    // "five bits at a time from the lowest on, at least one time, each with 32 more when others come behind"
    private static void writesNumbersOfEachLength() {
        for (int i = 0; i < NUMBERS.length; i++) {
            MappingDesk desk = new MappingDesk();
            desk.put(0, 0, NUMBERS[i], 0, NUMBERS[i], NUMBERS[i], -1);
            desk.put(0, 1, 0, 0, 0, 0, -1);
            String there = PLUS[i] + "A" + PLUS[i] + PLUS[i];
            CHECK.due("written with " + NUMBERS[i], Check.written(desk, 0), there + ";AA" + MINUS[i] + MINUS[i]);
        }
    }

    private static void readsNumbersOfEachLength() {
        for (int i = 0; i < NUMBERS.length; i++) {
            MappingDesk desk = new MappingDesk();
            String text = PLUS[i] + "A" + PLUS[i] + PLUS[i] + ";AA" + MINUS[i] + MINUS[i];
            CHECK.due("read of " + text, Check.read(desk, 0, text), 2);
            CHECK.due("first of " + text, Check.asked(desk, 0, 0, NUMBERS[i]), "0 " + NUMBERS[i] + " " + NUMBERS[i]
                    + " -1 0");
            CHECK.due("second of " + text, Check.asked(desk, 0, 1, 0), "0 0 0 -1 1");
        }
    }

    // "these 0 .. 63 are A-Z a-z 0-9 + /"
    private static void readsEveryDigit() {
        String digits = "ABCDEFGHIJKLMNOPQRSTUVWXYZabcdefghijklmnopqrstuvwxyz0123456789+/";
        for (int digit = 0; digit < 64; digit++) {
            int size = (digit & 31) / 2 + (digit >= 32 ? 16 : 0);
            boolean isBelow = (digit & 1) == 1;
            String number = digits.charAt(digit) + (digit >= 32 ? "B" : "");
            MappingDesk desk = new MappingDesk();
            // From 40 on both ways, so that each number comes out within its bounds.
            String text = "AAwCA,AA" + number + "A";
            CHECK.due("read of " + text, Check.read(desk, 0, text), 2);
            CHECK.due("asked of " + text, desk.ask(0, 0, 0, 1), isBelow ? 40 - size : 40 + size);
            String plain = number.equals("B") ? "A" : number;
            CHECK.due("written of " + text, Check.written(desk, 0), "AAwCA,AA" + plain + "A");
        }
    }

    // "(A sign with size 0 is 0.)"
    private static void takesASignWithSizeZeroForZero() {
        for (String zero : new String[] {"A", "B", "gA", "hA", "ggA", "hgA", "hggggggA", "hgggggggggggA"}) {
            MappingDesk desk = new MappingDesk();
            String text = zero + zero + zero + zero + zero;
            CHECK.due("read of " + text, Check.read(desk, 0, text), 1);
            CHECK.due("asked of " + text, Check.asked(desk, 0, 0, 0), "0 0 0 0 0");
            CHECK.due("written of " + text, Check.written(desk, 0), "AAAAA");
            CHECK.due("read of C,CCCCC," + text, Check.read(desk, 1, "C,CCCCC," + text), 3);
            CHECK.due("asked of C,CCCCC," + text, Check.asked(desk, 1, 0, 2), "1 1 1 1 2");
        }
        // One step to either side of it.
        for (String one : new String[] {"C", "iA", "igggggggA"}) {
            CHECK.due("read of " + one, Check.read(new MappingDesk(), 0, one), 1);
        }
        for (String one : new String[] {"D", "jA", "jgggggggA"}) {
            CHECK.due("read of " + one, Check.read(new MappingDesk(), 0, one), -2);
        }
    }
}
