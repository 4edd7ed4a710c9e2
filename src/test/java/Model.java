import java.math.BigInteger;
import java.util.ArrayList;
import java.util.Comparator;
import java.util.List;

/** The promises written another way: lists, texts and whole numbers without an end. */
final class Model {
    static final String DIGITS = "ABCDEFGHIJKLMNOPQRSTUVWXYZabcdefghijklmnopqrstuvwxyz0123456789+/";

    /** A segment; told is null, or source, line and column; name is null for none. */
    static final class Piece {
        final int line;
        final int column;
        int[] told;
        Integer name;

        Piece(int line, int column, int[] told, Integer name) {
            this.line = line;
            this.column = column;
            this.told = told;
            this.name = told == null ? null : name;
        }
    }

    private static final class Fault extends Exception {
        private static final long serialVersionUID = 1L;
        final int kind;
        final int place;

        Fault(int kind, int place) {
            this.kind = kind;
            this.place = place;
        }
    }

    private final List<List<Piece>> tables = new ArrayList<>(List.of(new ArrayList<>(), new ArrayList<>()));
    String tape = "";
    String text = "";
    int fault;

    boolean feed(int... numbers) {
        if (tape.length() + 20 > 3000) {
            return false;
        }
        StringBuilder longer = new StringBuilder(tape);
        for (int number : numbers) {
            longer.append((char) (number >> 24 & 255)).append((char) (number >> 16 & 255))
                    .append((char) (number >> 8 & 255)).append((char) (number & 255));
        }
        tape = longer.toString();
        return true;
    }

    boolean end(int n) {
        if (n < 0 || n > tape.length()) {
            return false;
        }
        tape = tape.substring(0, n);
        return true;
    }

    int read(int table) {
        String from = tape;
        tape = "";
        fault = 0;
        if (table != 0 && table != 1) {
            return -1;
        }
        try {
            tables.set(table, parse(from));
            return tables.get(table).size();
        } catch (Fault found) {
            fault = found.kind;
            return -2 - found.place;
        }
    }

    private static List<Piece> parse(String from) throws Fault {
        List<Piece> pieces = new ArrayList<>();
        long[] latest = new long[5];
        int place = 0;
        String[] lines = from.split(";", -1);
        for (int line = 0; line < lines.length; line++) {
            if (line == 200) {
                throw new Fault(5, place - 1);
            }
            latest[0] = 0;
            String[] parts = lines[line].isEmpty() ? new String[0] : lines[line].split(",", -1);
            for (int k = 0; k < parts.length; k++) {
                pieces.add(piece(numbers(parts[k], place), latest, line, place, pieces.size()));
                place += parts[k].length() + (k + 1 < parts.length ? 1 : 0);
            }
            place++;
        }
        return pieces;
    }

    private static List<BigInteger> numbers(String part, int from) throws Fault {
        List<BigInteger> numbers = new ArrayList<>();
        int first = 0;
        for (int i = 0; i < part.length(); i++) {
            int digit = DIGITS.indexOf(part.charAt(i));
            if (digit < 0) {
                throw new Fault(1, from + i);
            }
            if (digit < 32) {
                BigInteger whole = whole(part.substring(first, i + 1));
                if (whole.abs().compareTo(BigInteger.valueOf(Integer.MAX_VALUE)) > 0) {
                    throw new Fault(2, from + first);
                }
                numbers.add(whole);
                first = i + 1;
            }
        }
        if (first < part.length()) {
            throw new Fault(2, from + part.length());
        }
        return numbers;
    }

    private static BigInteger whole(String digits) {
        BigInteger sum = BigInteger.ZERO;
        for (int i = digits.length() - 1; i >= 0; i--) {
            sum = sum.multiply(BigInteger.valueOf(32)).add(BigInteger.valueOf(DIGITS.indexOf(digits.charAt(i)) % 32));
        }
        BigInteger size = sum.divide(BigInteger.TWO);
        return sum.testBit(0) ? size.negate() : size;
    }

    private static Piece piece(List<BigInteger> numbers, long[] latest, int line, int place, int before)
            throws Fault {
        if (numbers.size() != 1 && numbers.size() != 4 && numbers.size() != 5) {
            throw new Fault(3, place);
        }
        int[] most = {999999, 99, 999999, 999999, 99};
        for (int i = 0; i < numbers.size(); i++) {
            latest[i] += numbers.get(i).longValueExact();
            if (latest[i] < 0 || latest[i] > most[i]) {
                throw new Fault(4, place);
            }
        }
        if (numbers.get(0).signum() < 0) {
            throw new Fault(4, place);
        }
        if (before == 300) {
            throw new Fault(5, place);
        }
        int[] told = {(int) latest[1], (int) latest[2], (int) latest[3]};
        return new Piece(line, (int) latest[0], numbers.size() > 1 ? told : null,
                numbers.size() == 5 ? (int) latest[4] : null);
    }

    int put(int table, int line, int column, int source, int sourceLine, int sourceColumn, int name) {
        boolean stands = (table == 0 || table == 1) && line >= 0 && line < 200 && column >= 0 && column < 1000000;
        boolean tells = source >= 0;
        boolean toldIsGood = source < 100 && sourceLine >= 0 && sourceLine < 1000000 && sourceColumn >= 0
                && sourceColumn < 1000000 && name < 100;
        if (!stands || tells && !toldIsGood || tables.get(table).size() == 300) {
            return -1;
        }
        List<Piece> pieces = tables.get(table);
        pieces.add(new Piece(line, column, tells ? new int[] {source, sourceLine, sourceColumn} : null,
                name < 0 ? null : name));
        pieces.sort(Comparator.comparingLong(piece -> piece.line * 1000000L + piece.column));
        return pieces.size();
    }

    int write(int table) {
        if (table != 0 && table != 1) {
            return -1;
        }
        text = textOf(tables.get(table));
        return text.length();
    }

    private static String textOf(List<Piece> pieces) {
        int lines = pieces.isEmpty() ? 0 : pieces.get(pieces.size() - 1).line + 1;
        List<String> lineTexts = new ArrayList<>();
        int[] told = new int[3];
        int name = 0;
        for (int line = 0; line < lines; line++) {
            List<String> pieceTexts = new ArrayList<>();
            int column = 0;
            for (Piece piece : pieces) {
                if (piece.line != line) {
                    continue;
                }
                String pieceText = numberText(piece.column - column);
                column = piece.column;
                for (int i = 0; piece.told != null && i < 3; i++) {
                    pieceText += numberText(piece.told[i] - told[i]);
                    told[i] = piece.told[i];
                }
                if (piece.name != null) {
                    pieceText += numberText(piece.name - name);
                    name = piece.name;
                }
                pieceTexts.add(pieceText);
            }
            lineTexts.add(String.join(",", pieceTexts));
        }
        return String.join(";", lineTexts);
    }

    static String numberText(long number) {
        long sum = Math.abs(number) * 2 + (number < 0 ? 1 : 0);
        String digits = Long.toString(sum, 32);
        StringBuilder reversed = new StringBuilder();
        for (int i = digits.length() - 1; i >= 0; i--) {
            reversed.append(DIGITS.charAt(Character.digit(digits.charAt(i), 32) + (i > 0 ? 32 : 0)));
        }
        return reversed.toString();
    }

    private Piece telling(int table, int line, int column) {
        Piece last = null;
        for (Piece piece : tables.get(table)) {
            last = piece.line == line && piece.column <= column ? piece : last;
        }
        return last == null || last.told == null ? null : last;
    }

    int ask(int table, int line, int column, int what) {
        if (table < 0 || table > 1 || line < 0 || line > 999999 || column < 0 || column > 999999) {
            return -1;
        }
        Piece piece = telling(table, line, column);
        if (piece == null || what < 0 || what > 4) {
            return -1;
        }
        if (what == 3) {
            return piece.name == null ? -1 : piece.name;
        }
        return what == 4 ? tables.get(table).indexOf(piece) : piece.told[what];
    }

    int compose() {
        int telling = 0;
        for (Piece piece : tables.get(0)) {
            Piece behind = piece.told == null ? null : telling(1, piece.told[1], piece.told[2]);
            if (behind == null) {
                piece.told = null;
                piece.name = null;
            } else {
                piece.told = behind.told.clone();
                piece.name = piece.name == null ? behind.name : piece.name;
                telling++;
            }
        }
        return telling;
    }

    int size(int table) {
        return table == 0 || table == 1 ? tables.get(table).size() : -1;
    }

    boolean clear(int table) {
        if (table != 0 && table != 1) {
            return false;
        }
        tables.get(table).clear();
        return true;
    }
}
