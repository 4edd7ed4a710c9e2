/** Promise 9. */
public final class AskTest {
    private static final Check CHECK = new Check("AskTest");
    private static final String NOTHING = "-1 -1 -1 -1 -1";

    public static void main(String[] args) {
        asksManyPlaces();
        asksAheadAtAndBehindAColumn();
        asksAmongNeighbours();
        asksAheadAtAndBehindALine();
        asksTheLastOfOnePlace();
        asksEachWhat();
        asksEachTable();
        asksFullAndEmptyTables();
        asksNamesFromNoneTo99();
        CHECK.finish();
    }

    private static void asksManyPlaces() {
        MappingDesk desk = new MappingDesk();
        desk.put(0, 1, 10, 1, 100, 1000, 5);
        desk.put(0, 1, 20, 2, 200, 2000, -1);
        desk.put(0, 1, 30, -1, 0, 0, 0);
        desk.put(0, 1, 40, 3, 300, 3000, 6);
        desk.put(0, 1, 40, 4, 400, 4000, 7);
        desk.put(0, 3, 0, 0, 0, 0, 0);
        desk.put(0, 4, 0, 5, 0, 0, 0);
        desk.put(0, 4, 0, -1, 0, 0, 0);
        desk.put(1, 1, 0, 9, 9, 9, 9);

        CHECK.due("ahead of the first", Check.asked(desk, 0, 1, 9), NOTHING);
        CHECK.due("at the first", Check.asked(desk, 0, 1, 10), "1 100 1000 5 0");
        CHECK.due("behind the first", Check.asked(desk, 0, 1, 19), "1 100 1000 5 0");
        CHECK.due("without a name", Check.asked(desk, 0, 1, 20), "2 200 2000 -1 1");
        CHECK.due("at one that tells nothing", Check.asked(desk, 0, 1, 30), NOTHING);
        CHECK.due("behind one that tells nothing", Check.asked(desk, 0, 1, 39), NOTHING);
        CHECK.due("at two of one place", Check.asked(desk, 0, 1, 40), "4 400 4000 7 4");
        CHECK.due("far behind the last", Check.asked(desk, 0, 1, 999999), "4 400 4000 7 4");
        CHECK.due("on the line ahead", Check.asked(desk, 0, 0, 999999), NOTHING);
        CHECK.due("on an empty line between", Check.asked(desk, 0, 2, 0), NOTHING);
        CHECK.due("all of them 0", Check.asked(desk, 0, 3, 0), "0 0 0 0 5");
        CHECK.due("the last of a place tells nothing", Check.asked(desk, 0, 4, 0), NOTHING);
        CHECK.due("on a line that no table has", Check.asked(desk, 0, 200, 0), NOTHING);
        CHECK.due("on the last line of a place", Check.asked(desk, 0, 999999, 0), NOTHING);
        CHECK.due("the other table", Check.asked(desk, 1, 1, 999999), "9 9 9 9 0");

        CHECK.due("no such table", Check.asked(desk, -1, 1, 10), NOTHING);
        CHECK.due("no such table", Check.asked(desk, 2, 1, 10), NOTHING);
        CHECK.due("no such line", Check.asked(desk, 0, -1, 10), NOTHING);
        CHECK.due("no such line", Check.asked(desk, 0, 1000000, 10), NOTHING);
        CHECK.due("no such column", Check.asked(desk, 0, 1, -1), NOTHING);
        CHECK.due("no such column", Check.asked(desk, 0, 1, 1000000), NOTHING);
        CHECK.due("no such column", Check.asked(desk, 0, 1, Integer.MAX_VALUE), NOTHING);
        CHECK.due("no such what", desk.ask(0, 1, 10, -1), MappingDesk.NONE);
        CHECK.due("no such what", desk.ask(0, 1, 10, 5), MappingDesk.NONE);
        CHECK.due("no such what", desk.ask(0, 1, 10, Integer.MIN_VALUE), MappingDesk.NONE);
        CHECK.due("no such what", desk.ask(0, 1, 10, Integer.MAX_VALUE), MappingDesk.NONE);
    }

    // "the last segment of that line whose column isn't beyond it", and "each 0 .. 999999"
    private static void asksAheadAtAndBehindAColumn() {
        for (int column : new int[] {0, 1, 500000, 999998, 999999}) {
            MappingDesk desk = new MappingDesk();
            desk.put(0, 7, column, 1, 2, 3, 4);
            for (int asked : new int[] {-1, 0, 1, column - 1, column, column + 1, 999998, 999999, 1000000}) {
                boolean isTold = asked >= column && asked <= 999999;
                CHECK.due("column " + asked + " with a segment at " + column, Check.asked(desk, 0, 7, asked),
                        isTold ? "1 2 3 4 0" : NOTHING);
            }
        }
    }

    private static void asksAmongNeighbours() {
        MappingDesk desk = new MappingDesk();
        desk.put(0, 0, 4, 4, 0, 0, -1);
        desk.put(0, 0, 5, 5, 0, 0, -1);
        desk.put(0, 0, 6, -1, 0, 0, -1);
        desk.put(0, 0, 7, 7, 0, 0, -1);
        String[] due = {NOTHING, "4 0 0 -1 0", "5 0 0 -1 1", NOTHING, "7 0 0 -1 3", "7 0 0 -1 3"};
        for (int column = 3; column <= 8; column++) {
            CHECK.due("column " + column, Check.asked(desk, 0, 0, column), due[column - 3]);
        }
    }

    private static void asksAheadAtAndBehindALine() {
        for (int line : new int[] {0, 1, 100, 198, 199}) {
            MappingDesk desk = new MappingDesk();
            desk.put(1, line, 0, 1, 2, 3, 4);
            for (int asked : new int[] {-1, 0, 1, line - 1, line, line + 1, 198, 199, 200, 999999, 1000000}) {
                CHECK.due("line " + asked + " with a segment on " + line, Check.asked(desk, 1, asked, 999999),
                        asked == line ? "1 2 3 4 0" : NOTHING);
            }
        }
    }

    // "if it tells nothing, or there is none, nothing"
    private static void asksTheLastOfOnePlace() {
        MappingDesk desk = new MappingDesk();
        CHECK.due("none", Check.asked(desk, 0, 3, 3), NOTHING);
        desk.put(0, 3, 3, -1, 0, 0, -1);
        CHECK.due("one that tells nothing", Check.asked(desk, 0, 3, 3), NOTHING);
        desk.put(0, 3, 3, 5, 6, 7, 8);
        CHECK.due("behind it one that tells", Check.asked(desk, 0, 3, 3), "5 6 7 8 1");
        desk.put(0, 3, 3, 6, 7, 8, -1);
        CHECK.due("behind it another", Check.asked(desk, 0, 3, 3), "6 7 8 -1 2");
        desk.put(0, 3, 3, -1, 0, 0, -1);
        CHECK.due("behind it one that tells nothing", Check.asked(desk, 0, 3, 3), NOTHING);
        CHECK.due("and at the column behind", Check.asked(desk, 0, 3, 4), NOTHING);
    }

    // "0 the source, 1 its line, 2 its column, 3 the name .., 4 the segment's number in the table"
    private static void asksEachWhat() {
        MappingDesk desk = new MappingDesk();
        desk.put(0, 0, 0, -1, 0, 0, -1);
        desk.put(0, 1, 0, 11, 22, 33, 44);
        int[] due = {MappingDesk.NONE, MappingDesk.NONE, 11, 22, 33, 44, 1, MappingDesk.NONE, MappingDesk.NONE};
        for (int what = -2; what <= 6; what++) {
            CHECK.due("what " + what, desk.ask(0, 1, 0, what), due[what + 2]);
            CHECK.due("what " + what + " where nothing is told", desk.ask(0, 0, 0, what), MappingDesk.NONE);
        }
    }

    private static void asksEachTable() {
        MappingDesk desk = new MappingDesk();
        desk.put(0, 0, 0, 1, 1, 1, 1);
        desk.put(1, 0, 0, 2, 2, 2, 2);
        String[] due = {NOTHING, NOTHING, "1 1 1 1 0", "2 2 2 2 0", NOTHING, NOTHING};
        for (int table = -2; table <= 3; table++) {
            CHECK.due("table " + table, Check.asked(desk, table, 0, 0), due[table + 2]);
        }
    }

    private static void asksFullAndEmptyTables() {
        MappingDesk desk = new MappingDesk();
        CHECK.due("an empty table", Check.asked(desk, 0, 0, 0), NOTHING);
        CHECK.due("read of 300", Check.read(desk, 0, "AAAA" + ",CAAA".repeat(299)), 300);
        for (int column : new int[] {0, 1, 298, 299}) {
            CHECK.due("column " + column, Check.asked(desk, 0, 0, column), "0 0 0 -1 " + column);
        }
        CHECK.due("column 300", Check.asked(desk, 0, 0, 300), "0 0 0 -1 299");
        desk.clear(0);
        CHECK.due("a table emptied", Check.asked(desk, 0, 0, 299), NOTHING);
    }

    // "the name (NONE without one)"
    private static void asksNamesFromNoneTo99() {
        for (int name : new int[] {-1, 0, 1, 98, 99}) {
            MappingDesk desk = new MappingDesk();
            desk.put(0, 0, 0, 0, 0, 0, name);
            CHECK.due("asked with name " + name, Check.asked(desk, 0, 0, 0), "0 0 0 " + name + " 0");
        }
    }
}
