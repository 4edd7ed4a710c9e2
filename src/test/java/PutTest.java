/** Promise 6. */
public final class PutTest {
    private static final Check CHECK = new Check("PutTest");
    private static final int[] GOOD = {0, 199, 999999, 99, 999999, 999999, 99};

    public static void main(String[] args) {
        keepsOrder();
        leavesOutWhatIsBelowZero();
        refusesWhatIsOutOfBounds();
        refusesWhenFull();
        comesBehindTheOthersOfItsPlace();
        putsInTables0And1();
        changesNothingElse();
        CHECK.finish();
    }

    private static int put(MappingDesk desk, int[] all) {
        return desk.put(all[0], all[1], all[2], all[3], all[4], all[5], all[6]);
    }

    private static void keepsOrder() {
        MappingDesk desk = new MappingDesk();
        CHECK.due("put", desk.put(0, 1, 5, 1, 0, 0, -1), 1);
        CHECK.due("put ahead in the line", desk.put(0, 1, 2, 2, 0, 0, -1), 2);
        CHECK.due("put on a line ahead", desk.put(0, 0, 9, 3, 0, 0, -1), 3);
        CHECK.due("put at the same place", desk.put(0, 1, 2, 4, 0, 0, -1), 4);
        CHECK.due("put at the same place", desk.put(0, 1, 2, 5, 0, 0, -1), 5);
        CHECK.due("put at the end", desk.put(0, 2, 0, 6, 0, 0, -1), 6);
        CHECK.due("put first", desk.put(0, 0, 0, 7, 0, 0, -1), 7);
        // sources 7; 3; 2 4 5; 1; 6
        CHECK.due("written", Check.written(desk, 0), "AOAA,SJAA;EDAA,AEAA,ACAA,GJAA;AKAA");
        CHECK.due("all of a segment moves on", desk.put(0, 0, 1, 8, 1, 2, 3), 8);
        CHECK.due("all of a segment moves on", desk.put(0, 0, 0, 9, 4, 5, 6), 9);
        CHECK.due("at 0, 0", Check.asked(desk, 0, 0, 0), "9 4 5 6 1");
        CHECK.due("at 0, 1", Check.asked(desk, 0, 0, 1), "8 1 2 3 2");
        CHECK.due("size(1)", desk.size(1), 0);
        CHECK.due("put in table 1", desk.put(1, 0, 0, 0, 0, 0, 0), 1);
        CHECK.due("size(0)", desk.size(0), 9);
    }

    private static void leavesOutWhatIsBelowZero() {
        MappingDesk desk = new MappingDesk();
        CHECK.due("put without a source", desk.put(0, 0, 1, -1, 5, 5, 5), 1);
        CHECK.due("put, all below 0", desk.put(0, 0, 2, Integer.MIN_VALUE, -7, -7, -7), 2);
        CHECK.due("put, all too large", desk.put(0, 0, 3, -2, 1000000, Integer.MAX_VALUE, 100), 3);
        CHECK.due("put without a name", desk.put(0, 0, 4, 0, 0, 0, -1), 4);
        CHECK.due("put, name far below 0", desk.put(0, 0, 5, 0, 0, 0, Integer.MIN_VALUE), 5);
        CHECK.due("written", Check.written(desk, 0), "C,C,C,CAAA,CAAA");
        CHECK.due("name", desk.ask(0, 0, 5, 3), MappingDesk.NONE);
    }

    private static void refusesWhatIsOutOfBounds() {
        MappingDesk desk = new MappingDesk();
        CHECK.due("put at the last of all", put(desk, GOOD), 1);
        CHECK.due("put at the first of all", desk.put(0, 0, 0, 0, 0, 0, 0), 2);
        for (int which = 0; which < GOOD.length; which++) {
            int[] beyond = GOOD.clone();
            beyond[which] = which == 0 ? 2 : GOOD[which] + 1;
            CHECK.due("put, " + which + " beyond", put(desk, beyond), MappingDesk.NONE);
            beyond[which] = Integer.MAX_VALUE;
            CHECK.due("put, " + which + " far beyond", put(desk, beyond), MappingDesk.NONE);
        }
        for (int which : new int[] {0, 1, 2, 4, 5}) {
            int[] below = GOOD.clone();
            below[which] = -1;
            CHECK.due("put, " + which + " below", put(desk, below), MappingDesk.NONE);
            below[which] = Integer.MIN_VALUE;
            CHECK.due("put, " + which + " far below", put(desk, below), MappingDesk.NONE);
        }
        CHECK.due("put without a source at no line", desk.put(0, 200, 0, -1, 0, 0, 0), MappingDesk.NONE);
        CHECK.due("put without a source at no column", desk.put(0, 0, 1000000, -1, 0, 0, 0), MappingDesk.NONE);
        CHECK.due("size(0)", desk.size(0), 2);
        CHECK.due("size(1)", desk.size(1), 0);
    }

    private static void refusesWhenFull() {
        MappingDesk desk = new MappingDesk();
        Check.readMany(desk, 1, 299);
        CHECK.due("put the last", desk.put(1, 0, 0, 3, 4, 5, 6), 300);
        CHECK.due("put one more", desk.put(1, 0, 0, 3, 4, 5, 6), MappingDesk.NONE);
        CHECK.due("put one more at the end", desk.put(1, 9, 9, -1, 0, 0, 0), MappingDesk.NONE);
        CHECK.due("size(1)", desk.size(1), 300);
        CHECK.due("the last put", Check.asked(desk, 1, 0, 0), "3 4 5 6 1");
        CHECK.due("put in the other", desk.put(0, 0, 0, 3, 4, 5, 6), 1);
    }

    // "A segment comes behind the others of its place": ahead of a column, a line, one step farther
    private static void comesBehindTheOthersOfItsPlace() {
        int[][] around = {{4, 999999}, {5, 4}, {5, 5}, {5, 5}, {5, 6}, {6, 0}, {6, 5}};
        int[][] places = {{0, 0}, {4, 999999}, {5, 0}, {5, 4}, {5, 5}, {5, 6}, {5, 999999}, {6, 0}, {6, 5}, {6, 6},
            {199, 999999}};
        int[] numbers = {0, 1, 1, 2, 4, 5, 5, 6, 7, 7, 7};
        for (int i = 0; i < places.length; i++) {
            MappingDesk desk = new MappingDesk();
            for (int k = 0; k < around.length; k++) {
                CHECK.due("put " + k, desk.put(0, around[k][0], around[k][1], k, 0, 0, -1), k + 1);
            }
            String call = "put at " + places[i][0] + ", " + places[i][1];
            CHECK.due(call, desk.put(0, places[i][0], places[i][1], 50, 51, 52, 53), 8);
            CHECK.due("asked after " + call, Check.asked(desk, 0, places[i][0], places[i][1]),
                    "50 51 52 53 " + numbers[i]);
        }
    }

    private static void putsInTables0And1() {
        for (int table = -2; table <= 3; table++) {
            MappingDesk desk = new MappingDesk();
            boolean is = table == 0 || table == 1;
            CHECK.due("put in " + table, desk.put(table, 0, 0, 0, 0, 0, 0), is ? 1 : MappingDesk.NONE);
            CHECK.due("put in " + table + " again", desk.put(table, 0, 0, 0, 0, 0, 0), is ? 2 : MappingDesk.NONE);
            CHECK.due("size(0)", desk.size(0), table == 0 ? 2 : 0);
            CHECK.due("size(1)", desk.size(1), table == 1 ? 2 : 0);
        }
    }

    private static void changesNothingElse() {
        MappingDesk desk = new MappingDesk();
        Check.read(desk, 0, "A");
        desk.write(0);
        Check.read(desk, 0, "AA");
        Check.tape(desk, "E,E");
        CHECK.due("put", desk.put(0, 0, 1, 0, 0, 0, 0), 2);
        CHECK.due("state", Check.state(desk), "text A fault 3 zero 2 A,CAAAA one 0  tape 2 0 E,E");
    }
}
