/** Promises 11 and 12. */
public final class SizeAndClearTest {
    private static final Check CHECK = new Check("SizeAndClearTest");

    public static void main(String[] args) {
        countsAndEmpties();
        countsFromNoneTo300();
        takesTables0And1();
        emptiesAFullTable();
        CHECK.finish();
    }

    private static void countsAndEmpties() {
        MappingDesk desk = new MappingDesk();
        Check.read(desk, 0, "AAAA,A;;C");
        Check.readMany(desk, 1, 300);
        CHECK.due("size(0)", desk.size(0), 3);
        CHECK.due("size(1)", desk.size(1), 300);
        for (int table : new int[] {-1, 2, Integer.MIN_VALUE, Integer.MAX_VALUE}) {
            CHECK.due("size(" + table + ")", desk.size(table), MappingDesk.NONE);
            CHECK.due("clear(" + table + ")", desk.clear(table), false);
        }
        CHECK.due("size(0) then", desk.size(0), 3);
        CHECK.due("size(1) then", desk.size(1), 300);

        Check.tape(desk, "G");
        desk.write(0);
        CHECK.due("clear(1)", desk.clear(1), true);
        CHECK.due("size(1)", desk.size(1), 0);
        CHECK.due("size(0) stays", desk.size(0), 3);
        CHECK.due("clear(0)", desk.clear(0), true);
        CHECK.due("size(0)", desk.size(0), 0);
        CHECK.due("clear(0) again", desk.clear(0), true);
        CHECK.due("ask(0, 0, 0, 0)", desk.ask(0, 0, 0, 0), MappingDesk.NONE);
        CHECK.due("the text stays", Check.text(desk, 9), "AAAA,A;;C");
        CHECK.due("the tape stays", desk.read(0), 1);
        CHECK.due("put after clear", desk.put(1, 0, 0, -1, 0, 0, 0), 1);
        CHECK.due("written", Check.written(desk, 1), "A");
    }

    // "How many segments a table has"
    private static void countsFromNoneTo300() {
        for (int segments : new int[] {1, 2, 298, 299, 300}) {
            MappingDesk desk = new MappingDesk();
            CHECK.due("size(0) when empty", desk.size(0), 0);
            Check.readMany(desk, 0, segments);
            CHECK.due("size(0)", desk.size(0), segments);
            CHECK.due("put", desk.put(0, 0, 0, -1, 0, 0, 0), segments < 300 ? segments + 1 : MappingDesk.NONE);
            CHECK.due("size(0) after put", desk.size(0), Math.min(segments + 1, 300));
            CHECK.due("size(1)", desk.size(1), 0);
        }
    }

    // "NONE.", "false for no such table": one step to either side of 0 and 1
    private static void takesTables0And1() {
        for (int table = -2; table <= 3; table++) {
            MappingDesk desk = new MappingDesk();
            Check.read(desk, 0, "A");
            Check.read(desk, 1, "A,A");
            boolean is = table == 0 || table == 1;
            CHECK.due("size(" + table + ")", desk.size(table), is ? table + 1 : MappingDesk.NONE);
            CHECK.due("clear(" + table + ")", desk.clear(table), is);
            CHECK.due("size(" + table + ") then", desk.size(table), is ? 0 : MappingDesk.NONE);
            CHECK.due("size(0) then", desk.size(0), table == 0 ? 0 : 1);
            CHECK.due("size(1) then", desk.size(1), table == 1 ? 0 : 2);
        }
    }

    // "A table is emptied": it has room again, and nothing of what was is left
    private static void emptiesAFullTable() {
        MappingDesk desk = new MappingDesk();
        Check.read(desk, 0, "AmGmGmGmG" + ",CAAAA".repeat(299));
        CHECK.due("size(0)", desk.size(0), 300);
        CHECK.due("clear(0)", desk.clear(0), true);
        CHECK.due("write(0)", desk.write(0), 0);
        CHECK.due("compose()", desk.compose(), 0);
        CHECK.due("asked", Check.asked(desk, 0, 0, 0), "-1 -1 -1 -1 -1");
        for (int i = 1; i <= 300; i++) {
            CHECK.due("put " + i, desk.put(0, 0, i, -1, 0, 0, 0), i);
        }
        CHECK.due("put 301", desk.put(0, 0, 0, -1, 0, 0, 0), MappingDesk.NONE);
        CHECK.due("asked", Check.asked(desk, 0, 0, 300), "-1 -1 -1 -1 -1");
    }
}
