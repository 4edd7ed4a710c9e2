import java.util.NoSuchElementException;

/**
 * Two tables that say which place of a source each place of a made text comes
 * from: read from a tape, written as a text, asked, and put one behind another.
 */
public final class MappingDesk {
    public static final int NONE = -1;

    private static final int LAST_LINE = 199;
    private static final int LAST_OF_PLACE = 999999;
    private static final int LAST_SOURCE = 99;
    private static final int LAST_NAME = 99;
    private static final int MOST_SEGMENTS = 300;
    private static final int MOST_BYTES = 3000;
    private static final int MOST_CHARACTERS = 6000;

    private static final int NO_FAULT = 0;
    private static final int FAULT_CHARACTER = 1;
    private static final int FAULT_NUMBER = 2;
    private static final int FAULT_COUNT = 3;
    private static final int FAULT_BOUNDS = 4;
    private static final int FAULT_ROOM = 5;

    private static final int NUMBERS_WITH_SOURCE = 4;
    private static final int NUMBERS_WITH_NAME = 5;

    private static final int BITS_OF_DIGIT = 5;
    private static final int LOW_BITS = 31;
    private static final int MORE_COME = 32;
    private static final long LARGEST_SIZE = 2147483647L;
    // Digits from the lowest up to this shift hold every size that is allowed, and more.
    private static final int LAST_SHIFT = 30;
    private static final int MOST_DIGITS = 7;
    private static final String DIGITS =
            "ABCDEFGHIJKLMNOPQRSTUVWXYZabcdefghijklmnopqrstuvwxyz0123456789+/";

    private final Tape tape;
    private final Reader reader;
    private final Writer writer;
    private final Segment given;
    private Table zero;
    private Table one;
    private Text text;
    private int latestFault;

    public MappingDesk() {
        tape = new Tape();
        reader = new Reader();
        writer = new Writer();
        given = new Segment();
        zero = new Table();
        one = new Table();
        text = new Text();
        latestFault = NO_FAULT;
    }

    public boolean feed(int a, int b, int c, int d, int e) {
        if (!tape.hasRoomForFive()) {
            return false;
        }
        tape.appendFour(a);
        tape.appendFour(b);
        tape.appendFour(c);
        tape.appendFour(d);
        tape.appendFour(e);
        return true;
    }

    public boolean end(int n) {
        if (n < 0 || n > tape.length) {
            return false;
        }
        tape.length = n;
        return true;
    }

    public int read(int table) {
        latestFault = NO_FAULT;
        if (tableOf(table) == null) {
            tape.length = 0;
            return NONE;
        }
        reader.readTape(tape);
        tape.length = 0;
        latestFault = reader.faultFound;
        if (latestFault != NO_FAULT) {
            return -2 - reader.faultPlace;
        }
        if (table == 0) {
            zero = reader.exchangeTable(zero);
            return zero.count;
        }
        one = reader.exchangeTable(one);
        return one.count;
    }

    public int fault() {
        return latestFault;
    }

    public int put(int table, int line, int column, int source, int sourceLine, int sourceColumn, int name) {
        Table target = tableOf(table);
        if (target == null || target.isFull()) {
            return NONE;
        }
        given.standAt(line, column);
        if (source >= 0) {
            given.tell(source, sourceLine, sourceColumn, name);
        }
        if (!given.isInBounds()) {
            return NONE;
        }
        target.insert(given);
        return target.count;
    }

    public int write(int table) {
        Table written = tableOf(table);
        if (written == null) {
            return NONE;
        }
        if (!writer.writeTable(written)) {
            return NONE;
        }
        text = writer.exchangeText(text);
        return text.length;
    }

    public int textAt(int i) throws NoSuchElementException {
        if (i < 0 || i >= text.length) {
            throw new NoSuchElementException();
        }
        return text.characters[i];
    }

    public int ask(int table, int line, int column, int what) {
        Table asked = tableOf(table);
        if (asked == null || !isWithin(line, LAST_OF_PLACE) || !isWithin(column, LAST_OF_PLACE)) {
            return NONE;
        }
        int found = asked.findTelling(line, column);
        if (found < 0) {
            return NONE;
        }
        switch (what) {
            case 0:
                return asked.sources[found];
            case 1:
                return asked.sourceLines[found];
            case 2:
                return asked.sourceColumns[found];
            case 3:
                return asked.names[found];
            case 4:
                return found;
            default:
                return NONE;
        }
    }

    public int compose() {
        int telling = 0;
        for (int i = 0; i < zero.count; i++) {
            if (zero.tells(i)) {
                int behind = one.findTelling(zero.sourceLines[i], zero.sourceColumns[i]);
                if (behind < 0) {
                    zero.tellNothing(i);
                } else {
                    zero.tellAs(i, one, behind);
                    telling++;
                }
            }
        }
        return telling;
    }

    public int size(int table) {
        Table sized = tableOf(table);
        return sized == null ? NONE : sized.count;
    }

    public boolean clear(int table) {
        Table cleared = tableOf(table);
        if (cleared == null) {
            return false;
        }
        cleared.count = 0;
        return true;
    }

    private Table tableOf(int table) {
        if (table == 0) {
            return zero;
        }
        return table == 1 ? one : null;
    }

    private static boolean isWithin(long value, int last) {
        return value >= 0 && value <= last;
    }

    /** The bytes that were fed and are not read yet. */
    private static final class Tape {
        private static final int BYTES_OF_FIVE = 20;

        private final byte[] bytes = new byte[MOST_BYTES];
        private int length;

        private boolean hasRoomForFive() {
            return length + BYTES_OF_FIVE <= MOST_BYTES;
        }

        private void appendFour(int number) {
            for (int shift = 24; shift >= 0 && length < MOST_BYTES; shift -= 8) {
                bytes[length] = (byte) (number >>> shift);
                length++;
            }
        }

        private char characterAt(int place) {
            return (char) (bytes[place] & 255);
        }
    }

    /** One segment on its way into a table or out of it. */
    private static final class Segment {
        private int line;
        private int column;
        private int source;
        private int sourceLine;
        private int sourceColumn;
        private int name;

        private void standAt(int newLine, int newColumn) {
            line = newLine;
            column = newColumn;
            source = NONE;
            sourceLine = NONE;
            sourceColumn = NONE;
            name = NONE;
        }

        private void tell(int newSource, int newSourceLine, int newSourceColumn, int newName) {
            source = newSource;
            sourceLine = newSourceLine;
            sourceColumn = newSourceColumn;
            name = newName < 0 ? NONE : newName;
        }

        private boolean tellsSource() {
            return source >= 0;
        }

        private boolean tellsName() {
            return name >= 0;
        }

        private boolean isInBounds() {
            if (!isWithin(line, LAST_LINE) || !isWithin(column, LAST_OF_PLACE)) {
                return false;
            }
            return !tellsSource()
                    || source <= LAST_SOURCE && name <= LAST_NAME
                    && isWithin(sourceLine, LAST_OF_PLACE) && isWithin(sourceColumn, LAST_OF_PLACE);
        }
    }

    /** Segments in order of their places; a row of numbers for each thing that they tell. */
    private static final class Table {
        private final int[] lines = new int[MOST_SEGMENTS];
        private final int[] columns = new int[MOST_SEGMENTS];
        private final int[] sources = new int[MOST_SEGMENTS];
        private final int[] sourceLines = new int[MOST_SEGMENTS];
        private final int[] sourceColumns = new int[MOST_SEGMENTS];
        private final int[] names = new int[MOST_SEGMENTS];
        private int count;

        private boolean isFull() {
            return count >= MOST_SEGMENTS;
        }

        private boolean tells(int i) {
            return sources[i] >= 0;
        }

        private void insert(Segment segment) {
            if (isFull()) {
                return;
            }
            int at = count;
            while (at > 0 && isBeyond(at - 1, segment)) {
                at--;
            }
            makeGap(at);
            lines[at] = segment.line;
            columns[at] = segment.column;
            sources[at] = segment.source;
            sourceLines[at] = segment.sourceLine;
            sourceColumns[at] = segment.sourceColumn;
            names[at] = segment.name;
            count++;
        }

        private boolean isBeyond(int i, Segment segment) {
            return lines[i] > segment.line
                    || lines[i] == segment.line && columns[i] > segment.column;
        }

        private void makeGap(int at) {
            int moved = count - at;
            System.arraycopy(lines, at, lines, at + 1, moved);
            System.arraycopy(columns, at, columns, at + 1, moved);
            System.arraycopy(sources, at, sources, at + 1, moved);
            System.arraycopy(sourceLines, at, sourceLines, at + 1, moved);
            System.arraycopy(sourceColumns, at, sourceColumns, at + 1, moved);
            System.arraycopy(names, at, names, at + 1, moved);
        }

        private void copyTo(int i, Segment segment) {
            segment.standAt(lines[i], columns[i]);
            if (tells(i)) {
                segment.tell(sources[i], sourceLines[i], sourceColumns[i], names[i]);
            }
        }

        private int findTelling(int line, int column) {
            for (int i = count - 1; i >= 0; i--) {
                if (lines[i] == line && columns[i] <= column) {
                    return tells(i) ? i : NONE;
                }
            }
            return NONE;
        }

        private void tellNothing(int i) {
            sources[i] = NONE;
            sourceLines[i] = NONE;
            sourceColumns[i] = NONE;
            names[i] = NONE;
        }

        private void tellAs(int i, Table other, int there) {
            sources[i] = other.sources[there];
            sourceLines[i] = other.sourceLines[there];
            sourceColumns[i] = other.sourceColumns[there];
            if (names[i] < 0) {
                names[i] = other.names[there];
            }
        }
    }

    /** What the segments ahead told last: the numbers of a text are differences from these. */
    private static final class Ahead {
        private int column;
        private int source;
        private int sourceLine;
        private int sourceColumn;
        private int name;

        private void startText() {
            column = 0;
            source = 0;
            sourceLine = 0;
            sourceColumn = 0;
            name = 0;
        }

        private void startLine() {
            column = 0;
        }

        private void pass(Segment segment) {
            column = segment.column;
            if (segment.tellsSource()) {
                source = segment.source;
                sourceLine = segment.sourceLine;
                sourceColumn = segment.sourceColumn;
            }
            if (segment.tellsName()) {
                name = segment.name;
            }
        }
    }

    /** One number, taken in digit by digit from its lowest bits on. */
    private static final class NumberTaker {
        private boolean isOpen;
        private int start;
        private long bits;
        private int shift;
        private boolean isTooLong;

        private void forget() {
            isOpen = false;
        }

        private void take(int digit, int place) {
            if (!isOpen) {
                start = place;
                bits = 0;
                shift = 0;
                isTooLong = false;
            }
            int low = digit & LOW_BITS;
            // Digits without a set bit may go on and on, so only a set one makes the number too long.
            if (shift <= LAST_SHIFT) {
                bits |= (long) low << shift;
                shift += BITS_OF_DIGIT;
            } else if (low != 0) {
                isTooLong = true;
            }
            isOpen = digit >= MORE_COME;
        }

        private boolean isTooLarge() {
            return isTooLong || bits >> 1 > LARGEST_SIZE;
        }

        private long value() {
            long size = bits >> 1;
            return (bits & 1) == 0 ? size : -size;
        }
    }

    /**
     * Goes along a tape once and fills a table of its own, up to the first fault;
     * so the table that was stays whole until the new one is known to be good.
     */
    private static final class Reader {
        private final NumberTaker number = new NumberTaker();
        private final long[] numbers = new long[NUMBERS_WITH_NAME];
        private final Ahead ahead = new Ahead();
        private final Segment segment = new Segment();
        private Table filled = new Table();
        private int numberCount;
        private int segmentStart;
        private boolean isBehindComma;
        private int line;
        private int faultFound;
        private int faultPlace;

        private void readTape(Tape tape) {
            start();
            for (int place = 0; place < tape.length && faultFound == NO_FAULT; place++) {
                takeCharacter(tape.characterAt(place), place);
            }
            if (faultFound == NO_FAULT) {
                endSegment(false, tape.length);
            }
        }

        private Table exchangeTable(Table old) {
            Table made = filled;
            filled = old;
            return made;
        }

        private void start() {
            filled.count = 0;
            number.forget();
            ahead.startText();
            numberCount = 0;
            segmentStart = 0;
            isBehindComma = false;
            line = 0;
            faultFound = NO_FAULT;
            faultPlace = 0;
        }

        private void refuse(int newFault, int place) {
            faultFound = newFault;
            faultPlace = place;
        }

        private void takeCharacter(char character, int place) {
            int digit = DIGITS.indexOf(character);
            if (digit >= 0) {
                takeDigit(digit, place);
            } else if (character == ',') {
                endSegment(true, place);
                isBehindComma = true;
            } else if (character == ';') {
                endSegment(false, place);
                isBehindComma = false;
                startLine(place);
            } else {
                refuse(FAULT_CHARACTER, place);
            }
        }

        private void takeDigit(int digit, int place) {
            if (numberCount == 0 && !number.isOpen) {
                segmentStart = place;
            }
            number.take(digit, place);
            if (number.isOpen) {
                return;
            }
            if (number.isTooLarge()) {
                refuse(FAULT_NUMBER, number.start);
                return;
            }
            if (numberCount < NUMBERS_WITH_NAME) {
                numbers[numberCount] = number.value();
            }
            numberCount++;
        }

        private void startLine(int place) {
            if (faultFound != NO_FAULT) {
                return;
            }
            if (line >= LAST_LINE) {
                refuse(FAULT_ROOM, place);
                return;
            }
            line++;
            ahead.startLine();
        }

        private void endSegment(boolean isAtComma, int place) {
            if (number.isOpen) {
                refuse(FAULT_NUMBER, place);
            } else if (numberCount > 0) {
                addSegment();
            } else if (isAtComma || isBehindComma) {
                refuse(FAULT_COUNT, place);
            }
            numberCount = 0;
        }

        private void addSegment() {
            if (numberCount != 1 && numberCount != NUMBERS_WITH_SOURCE && numberCount != NUMBERS_WITH_NAME) {
                refuse(FAULT_COUNT, segmentStart);
            } else if (!addUp()) {
                refuse(FAULT_BOUNDS, segmentStart);
            } else if (filled.isFull()) {
                refuse(FAULT_ROOM, segmentStart);
            } else {
                filled.insert(segment);
                ahead.pass(segment);
            }
        }

        /** Makes the segment from its numbers; false when it is out of bounds. */
        private boolean addUp() {
            long column = ahead.column + numbers[0];
            if (numbers[0] < 0 || column > LAST_OF_PLACE) {
                return false;
            }
            segment.standAt(line, (int) column);
            if (numberCount < NUMBERS_WITH_SOURCE) {
                return true;
            }
            long source = ahead.source + numbers[1];
            long sourceLine = ahead.sourceLine + numbers[2];
            long sourceColumn = ahead.sourceColumn + numbers[3];
            long name = numberCount < NUMBERS_WITH_NAME ? 0 : ahead.name + numbers[4];
            if (!isWithin(source, LAST_SOURCE) || !isWithin(sourceLine, LAST_OF_PLACE)
                    || !isWithin(sourceColumn, LAST_OF_PLACE) || !isWithin(name, LAST_NAME)) {
                return false;
            }
            segment.tell((int) source, (int) sourceLine, (int) sourceColumn,
                    numberCount < NUMBERS_WITH_NAME ? NONE : (int) name);
            return true;
        }
    }

    /** Characters, as many as there is room for. */
    private static final class Text {
        private final char[] characters = new char[MOST_CHARACTERS];
        private int length;
        private boolean overflowed;

        private void makeEmpty() {
            length = 0;
            overflowed = false;
        }

        private void append(char character) {
            if (length >= MOST_CHARACTERS) {
                overflowed = true;
                return;
            }
            characters[length] = character;
            length++;
        }

        private void appendNumber(int number) {
            int rest = number < 0 ? 1 - 2 * number : 2 * number;
            for (int digits = 0; digits < MOST_DIGITS; digits++) {
                int low = rest & LOW_BITS;
                rest = rest >>> BITS_OF_DIGIT;
                append(DIGITS.charAt(rest == 0 ? low : low + MORE_COME));
                if (rest == 0) {
                    return;
                }
            }
        }
    }

    /**
     * Goes along a table and makes its text in a room of its own, so the text
     * that was stays whole until the new one is known to have room.
     */
    private static final class Writer {
        private final Ahead ahead = new Ahead();
        private final Segment segment = new Segment();
        private Text made = new Text();
        private int line;

        private boolean writeTable(Table table) {
            made.makeEmpty();
            ahead.startText();
            line = 0;
            for (int i = 0; i < table.count; i++) {
                table.copyTo(i, segment);
                if (i > 0 && segment.line == line) {
                    made.append(',');
                } else {
                    goToLine(segment.line);
                }
                writeSegment();
                ahead.pass(segment);
            }
            return !made.overflowed;
        }

        private Text exchangeText(Text old) {
            Text written = made;
            made = old;
            return written;
        }

        private void goToLine(int newLine) {
            for (int i = line; i < newLine; i++) {
                made.append(';');
            }
            line = newLine;
            ahead.startLine();
        }

        private void writeSegment() {
            made.appendNumber(segment.column - ahead.column);
            if (segment.tellsSource()) {
                made.appendNumber(segment.source - ahead.source);
                made.appendNumber(segment.sourceLine - ahead.sourceLine);
                made.appendNumber(segment.sourceColumn - ahead.sourceColumn);
            }
            if (segment.tellsName()) {
                made.appendNumber(segment.name - ahead.name);
            }
        }
    }
}
