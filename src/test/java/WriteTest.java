/** Promises 7 and 8. */
public final class WriteTest {
    private static final Check CHECK = new Check("WriteTest");

    public static void main(String[] args) {
        writesSegments();
        writesNumbers();
        keepsTheText();
        answersCharacters();
        writesTheLongest();
        writesLinesUpToTheLastWithASegment();
        writesTables0And1();
        takesTheColumnFromItsLineAlone();
        takesTheRestFromTheLatestThatTells();
        answersFromTheFirstToTheLast();
        changesNothingElse();
        CHECK.finish();
    }

    private static void writesSegments() {
        MappingDesk desk = new MappingDesk();
        desk.put(1, 2, 4, 1, 2, 3, 4);
        desk.put(1, 2, 6, -1, 0, 0, 0);
        desk.put(1, 2, 7, 1, 2, 3, -1);
        desk.put(1, 4, 1, 0, 0, 0, 5);
        CHECK.due("written", Check.written(desk, 1), ";;ICEGI,E,CAAA;;CDFHC");
        desk.clear(1);
        CHECK.due("written when empty", desk.write(1), 0);
        desk.put(1, 199, 0, -1, 0, 0, 0);
        CHECK.due("written on the last line", desk.write(1), 200);
        CHECK.due("its last", Check.fetch(desk, 199), 'A');
        CHECK.due("ahead of it", Check.fetch(desk, 198), ';');
    }

    private static void writesNumbers() {
        String[] texts = {"A", "C", "e", "gB", "+f", "ggB", "+//B", "+jh9B"};
        int[] columns = {0, 1, 15, 16, 511, 512, 32767, 999999};
        for (int i = 0; i < texts.length; i++) {
            MappingDesk desk = new MappingDesk();
            desk.put(0, 0, columns[i], -1, 0, 0, 0);
            CHECK.due("column " + columns[i], Check.written(desk, 0), texts[i]);
        }
        MappingDesk desk = new MappingDesk();
        desk.put(0, 0, 0, 16, 16, 16, 16);
        desk.put(0, 0, 0, 1, 0, 15, 16);
        CHECK.due("written", Check.written(desk, 0), "AgBgBgBgB,AfhBDA");
    }

    private static void keepsTheText() {
        MappingDesk desk = new MappingDesk();
        Check.read(desk, 0, "A,C");
        Check.read(desk, 1, "EAAA");
        CHECK.due("write(0)", desk.write(0), 3);
        for (int table : new int[] {-1, 2, Integer.MIN_VALUE, Integer.MAX_VALUE}) {
            CHECK.due("write(" + table + ")", desk.write(table), MappingDesk.NONE);
        }
        CHECK.due("the text stays", Check.text(desk, 3), "A,C");
        desk.clear(0);
        desk.compose();
        Check.read(desk, 0, "G;G");
        CHECK.due("the text stays", Check.text(desk, 3), "A,C");
        CHECK.due("textAt(3)", Check.fetch(desk, 3), Check.THROWS);
        CHECK.due("written", Check.written(desk, 1), "EAAA");
        CHECK.due("written", Check.written(desk, 0), "G;G");
        CHECK.due("textAt(3) of a shorter text", Check.fetch(desk, 3), Check.THROWS);
        CHECK.due("table 0 stays", desk.size(0), 2);
        CHECK.due("table 1 stays", desk.size(1), 1);
    }

    private static void answersCharacters() {
        MappingDesk desk = new MappingDesk();
        CHECK.due("textAt(0) of nothing", Check.fetch(desk, 0), Check.THROWS);
        Check.read(desk, 0, "A;+B");
        desk.write(0);
        CHECK.due("textAt(0)", Check.fetch(desk, 0), 65);
        CHECK.due("textAt(1)", Check.fetch(desk, 1), 59);
        CHECK.due("textAt(2)", Check.fetch(desk, 2), 43);
        CHECK.due("textAt(3)", Check.fetch(desk, 3), 66);
        for (int i : new int[] {4, 5, -1, 5999, 6000, Integer.MIN_VALUE, Integer.MAX_VALUE}) {
            CHECK.due("textAt(" + i + ")", Check.fetch(desk, i), Check.THROWS);
        }
        desk.clear(0);
        desk.write(0);
        CHECK.due("textAt(0) of an empty text", Check.fetch(desk, 0), Check.THROWS);
    }

    // The bounds of a table let no text grow beyond this one, so that 6000 is never passed.
    private static void writesTheLongest() {
        MappingDesk desk = new MappingDesk();
        for (int i = 0; i < 300; i++) {
            int line = i < 200 ? i / 2 : i - 100;
            int column = i < 200 && i % 2 == 1 ? 999999 : 600000;
            int top = i % 2 == 0 ? 99 : 0;
            int place = i % 2 == 0 ? 999999 : 0;
            CHECK.due("put " + i, desk.put(0, line, column, top, place, place, top), i + 1);
        }
        CHECK.due("write(0)", desk.write(0), 5899);
        CHECK.due("textAt(0)", Check.fetch(desk, 0), 'g');
        CHECK.due("textAt(5898)", Check.fetch(desk, 5898), 'G');
        CHECK.due("textAt(5899)", Check.fetch(desk, 5899), Check.THROWS);
    }

    // "its lines up to the last one with a segment, ; between; a line's segments, , between"
    private static void writesLinesUpToTheLastWithASegment() {
        for (int line : new int[] {0, 1, 2, 198, 199}) {
            MappingDesk desk = new MappingDesk();
            desk.put(0, line, 0, -1, 0, 0, 0);
            CHECK.due("one on line " + line, Check.written(desk, 0), ";".repeat(line) + "A");
            desk.put(0, line, 1, -1, 0, 0, 0);
            CHECK.due("two on line " + line, desk.write(0), line + 3);
            CHECK.due("between", Check.fetch(desk, line + 1), ',');
            CHECK.due("behind", Check.fetch(desk, line + 3), Check.THROWS);
        }
        MappingDesk desk = new MappingDesk();
        CHECK.due("a table without a segment", desk.write(0), 0);
        Check.read(desk, 0, ";;;");
        CHECK.due("empty lines alone", desk.write(0), 0);
        Check.read(desk, 0, ";A;;");
        CHECK.due("empty lines behind", Check.written(desk, 0), ";A");
    }

    private static void writesTables0And1() {
        MappingDesk desk = new MappingDesk();
        desk.put(0, 0, 0, -1, 0, 0, 0);
        desk.put(1, 1, 0, -1, 0, 0, 0);
        int[] due = {MappingDesk.NONE, MappingDesk.NONE, 1, 2, MappingDesk.NONE, MappingDesk.NONE};
        for (int table = -2; table <= 3; table++) {
            CHECK.due("write(" + table + ")", desk.write(table), due[table + 2]);
            CHECK.due("the text then", Check.wholeText(desk), table < 0 ? "" : table == 0 ? "A" : ";A");
        }
    }

    // "its column less that of the segment ahead in its line (0 at first)"
    private static void takesTheColumnFromItsLineAlone() {
        MappingDesk desk = new MappingDesk();
        desk.put(0, 0, 5, -1, 0, 0, 0);
        desk.put(0, 0, 5, 0, 0, 0, -1);
        desk.put(0, 0, 6, -1, 0, 0, 0);
        desk.put(0, 1, 0, -1, 0, 0, 0);
        desk.put(0, 3, 7, -1, 0, 0, 0);
        CHECK.due("written", Check.written(desk, 0), "K,AAAA,C;A;;O");
    }

    // "less those of the latest segment ahead, on any line, that tells them (0 at first)"
    private static void takesTheRestFromTheLatestThatTells() {
        MappingDesk desk = new MappingDesk();
        desk.put(0, 0, 0, -1, 0, 0, 0);
        desk.put(0, 0, 1, 1, 2, 3, 4);
        desk.put(0, 1, 0, -1, 0, 0, 0);
        desk.put(0, 1, 1, 2, 3, 4, -1);
        desk.put(0, 9, 0, -1, 0, 0, 0);
        desk.put(0, 9, 0, 2, 3, 4, 5);
        desk.put(0, 9, 0, 0, 0, 0, 0);
        CHECK.due("written", Check.written(desk, 0), "A,CCEGI;A,CCCC;;;;;;;;A,AAAAC,AFHJL");
    }

    // "Character i of the text. NoSuchElementException: there is none."
    private static void answersFromTheFirstToTheLast() {
        for (int length = 0; length <= 3; length++) {
            MappingDesk desk = new MappingDesk();
            Check.read(desk, 0, length == 0 ? "" : ";".repeat(length - 1) + "E");
            CHECK.due("textAt(0) ahead of a write", Check.fetch(desk, 0), Check.THROWS);
            CHECK.due("write(0)", desk.write(0), length);
            for (int i = -2; i <= length + 1; i++) {
                int due = i < 0 || i >= length ? Check.THROWS : i == length - 1 ? 'E' : ';';
                CHECK.due("textAt(" + i + ") of " + length, Check.fetch(desk, i), due);
            }
        }
    }

    private static void changesNothingElse() {
        MappingDesk desk = new MappingDesk();
        Check.read(desk, 0, "A,C");
        Check.read(desk, 1, "AAAA");
        Check.read(desk, 0, "AA");
        Check.tape(desk, "E,E");
        CHECK.due("write(1)", desk.write(1), 4);
        CHECK.due("state", Check.state(desk), "text AAAA fault 3 zero 2 A,C one 1 AAAA tape 2 0 E,E");
    }
}
