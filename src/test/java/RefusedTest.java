import java.util.function.ToLongFunction;

/** Each call that is refused: what it answers, and that nothing is changed by it. */
public final class RefusedTest {
    private static final Check CHECK = new Check("RefusedTest");
    private static final int MAX = Integer.MAX_VALUE;
    private static final int MIN = Integer.MIN_VALUE;
    private static final int[] NO_TABLES = {-1, 2, -2, 3, 256, 65536, MIN, MIN + 1, MAX};

    private static final String TEXT = "text CAAAA,I";
    private static final String TABLES = " zero 3 ACEGI,C;;E one 2 CAAAA,I";
    private static final String TAPE = " tape 2 0 G,CCCCC";
    private static final String EMPTY_TAPE = " tape 0 0 ";
    private static final String ALL = TEXT + " fault 3" + TABLES + TAPE;

    public static void main(String[] args) {
        showsWhatIsChanged();
        refusesEnd();
        refusesFeed();
        refusesReadOfNoTable();
        refusesReadOfFaults();
        refusesPut();
        refusesPutWithoutRoom();
        refusesWrite();
        refusesTextAt();
        refusesAsk();
        refusesSize();
        refusesClear();
        CHECK.finish();
    }

    /** A desk with something of all that a call could change. */
    private static MappingDesk used() {
        MappingDesk desk = new MappingDesk();
        Check.read(desk, 0, "ACEGI,C;;E");
        Check.read(desk, 1, "CAAAA,I");
        desk.write(1);
        Check.read(desk, 0, "AA");
        Check.tape(desk, "G,CCCCC");
        return desk;
    }

    private static void leaves(String call, ToLongFunction<MappingDesk> made, long due, String state) {
        MappingDesk desk = used();
        CHECK.due(call, made.applyAsLong(desk), due);
        CHECK.due("state after " + call, Check.state(desk), state);
        MappingDesk twice = used();
        made.applyAsLong(twice);
        made.applyAsLong(twice);
        CHECK.due("state after twice " + call, Check.state(twice), state);
    }

    private static long of(boolean answer) {
        return answer ? 1 : 0;
    }

    // Without this the other tests could be blind.
    private static void showsWhatIsChanged() {
        CHECK.due("state", Check.state(used()), ALL);
        leaves("end(1)", desk -> of(desk.end(1)), 1, TEXT + " fault 3" + TABLES + " tape 1 0 G");
        leaves("clear(0)", desk -> of(desk.clear(0)), 1, TEXT + " fault 3 zero 0  one 2 CAAAA,I" + TAPE);
        leaves("clear(1)", desk -> of(desk.clear(1)), 1, TEXT + " fault 3 zero 3 ACEGI,C;;E one 0 " + TAPE);
        leaves("write(0)", desk -> desk.write(0), 10, "text ACEGI,C;;E fault 3" + TABLES + TAPE);
    }

    // "false, changing nothing, when it has not so many, or n is below 0"
    private static void refusesEnd() {
        for (int n : new int[] {-1, -2, MIN, 8, 9, 20, 21, 3000, 3001, MAX}) {
            leaves("end(" + n + ")", desk -> of(desk.end(n)), 0, ALL);
        }
    }

    // "false, changing nothing, when it would have more than 3000"
    private static void refusesFeed() {
        MappingDesk desk = used();
        // Behind G,CCCCC come empty lines' ; that a read of 3000 would refuse, so the tape is cut again.
        for (int feeds = 0; feeds < 149; feeds++) {
            CHECK.due("feed " + feeds, desk.feed(0x3B3B3B3B, 0x3B3B3B3B, 0x3B3B3B3B, 0x3B3B3B3B, 0x3B3B3B3B), true);
        }
        CHECK.due("feed at 2987 of 3000", desk.feed(0x41414141, 0, 0, 0, 0), false);
        CHECK.due("end(2988)", desk.end(2988), false);
        CHECK.due("end(2987)", desk.end(2987), true);
        CHECK.due("feed at 2987 of 3000 again", desk.feed(0x41414141, 0, 0, 0, 0), false);
        CHECK.due("end(7)", desk.end(7), true);
        CHECK.due("state after feed", Check.state(desk), ALL);
    }

    // "NONE for no such table (the tape is empty, too)"
    private static void refusesReadOfNoTable() {
        for (int table : NO_TABLES) {
            leaves("read(" + table + ")", desk -> desk.read(table), MappingDesk.NONE,
                    TEXT + " fault 0" + TABLES + EMPTY_TAPE);
        }
    }

    // "-2 - the place of the first fault (from the left), the table stays"
    private static void refusesReadOfFaults() {
        String[] texts = {"GGGGG!", "G,CCCCCg", "GGGGG,ggggggE", "GGGGG,AA", "GGGGG,", ",GGGGG", "GGGGG,D",
            "GGGGG" + ";".repeat(200)};
        int[] faults = {1, 2, 2, 3, 3, 3, 4, 5};
        int[] places = {5, 8, 6, 6, 6, 0, 6, 204};
        for (int table = 0; table <= 1; table++) {
            for (int i = 0; i < texts.length; i++) {
                MappingDesk desk = used();
                desk.end(0);
                String call = "read(" + table + ") of " + texts[i];
                CHECK.due(call, Check.read(desk, table, texts[i]), -2 - places[i]);
                CHECK.due("state after " + call, Check.state(desk),
                        TEXT + " fault " + faults[i] + TABLES + EMPTY_TAPE);
            }
        }
    }

    private static void putLeaves(int table, int line, int column, int source, int sourceLine, int sourceColumn,
            int name) {
        leaves("put(" + table + ", " + line + ", " + column + ", " + source + ", " + sourceLine + ", " + sourceColumn
                + ", " + name + ")",
                desk -> desk.put(table, line, column, source, sourceLine, sourceColumn, name), MappingDesk.NONE, ALL);
    }

    // "NONE when it isn't as said"
    private static void refusesPut() {
        for (int table : NO_TABLES) {
            putLeaves(table, 0, 0, 0, 0, 0, 0);
            putLeaves(table, 0, 0, -1, 0, 0, 0);
        }
        for (int table = 0; table <= 1; table++) {
            for (int source : new int[] {-1, 0, 99}) {
                for (int line : new int[] {MIN, -1, 200, 999999, 1000000, MAX}) {
                    putLeaves(table, line, 0, source, 0, 0, 0);
                }
                for (int column : new int[] {MIN, -1, 1000000, MAX}) {
                    putLeaves(table, 0, column, source, 0, 0, 0);
                }
            }
            for (int source : new int[] {100, 101, MAX}) {
                putLeaves(table, 0, 0, source, 0, 0, 0);
            }
            for (int wrong : new int[] {MIN, -1, 1000000, MAX}) {
                putLeaves(table, 0, 0, 0, wrong, 0, 0);
                putLeaves(table, 0, 0, 0, 0, wrong, -1);
            }
            for (int name : new int[] {100, 101, MAX}) {
                putLeaves(table, 0, 0, 0, 0, 0, name);
            }
        }
    }

    // "or no room": a full table's text is too long to fetch, so its length and TermsTest stand for it.
    private static void refusesPutWithoutRoom() {
        for (int table = 0; table <= 1; table++) {
            MappingDesk desk = used();
            desk.end(0);
            Check.readMany(desk, table, 300);
            Check.read(desk, table, "AA");
            Check.tape(desk, "G,CCCCC");
            CHECK.due("put without room", desk.put(table, 0, 0, 1, 1, 1, 1), MappingDesk.NONE);
            CHECK.due("put without room", desk.put(table, 199, 999999, -1, 0, 0, 0), MappingDesk.NONE);
            CHECK.due("the text stays", Check.wholeText(desk), "CAAAA,I");
            CHECK.due("the fault stays", desk.fault(), 3);
            CHECK.due("the table stays", desk.size(table), 300);
            CHECK.due("the table's text stays", desk.write(table), 599);
            CHECK.due("the other table stays", Check.written(desk, 1 - table), table == 0 ? "CAAAA,I" : "ACEGI,C;;E");
            CHECK.due("the tape stays", desk.read(table), 2);
            CHECK.due("what it was", Check.written(desk, table), "G,CCCCC");
        }
    }

    // "NONE for no such table .. (the text stays)"
    private static void refusesWrite() {
        for (int table : NO_TABLES) {
            leaves("write(" + table + ")", desk -> desk.write(table), MappingDesk.NONE, ALL);
        }
    }

    // "NoSuchElementException: there is none."
    private static void refusesTextAt() {
        for (int i : new int[] {MIN, -2, -1, 7, 8, 5999, 6000, 6001, MAX}) {
            leaves("textAt(" + i + ")", desk -> Check.fetch(desk, i), Check.THROWS, ALL);
        }
    }

    private static void askLeaves(int table, int line, int column, int what) {
        leaves("ask(" + table + ", " + line + ", " + column + ", " + what + ")",
                desk -> desk.ask(table, line, column, what), MappingDesk.NONE, ALL);
    }

    // "NONE when nothing is told, or something is none"
    private static void refusesAsk() {
        for (int what = 0; what <= 4; what++) {
            for (int table : NO_TABLES) {
                askLeaves(table, 0, 0, what);
            }
            for (int none : new int[] {MIN, -1, 1000000, MAX}) {
                askLeaves(0, none, 0, what);
                askLeaves(0, 0, none, what);
            }
            askLeaves(0, 0, 1, what);
            askLeaves(0, 1, 0, what);
            askLeaves(1, 0, 0, what);
            askLeaves(1, 0, 5, what);
        }
        for (int what : new int[] {MIN, -1, 5, 6, MAX}) {
            askLeaves(0, 0, 0, what);
        }
        leaves("ask(0, 0, 0, 0)", desk -> desk.ask(0, 0, 0, 0), 1, ALL);
    }

    private static void refusesSize() {
        for (int table : NO_TABLES) {
            leaves("size(" + table + ")", desk -> desk.size(table), MappingDesk.NONE, ALL);
        }
        leaves("size(0)", desk -> desk.size(0), 3, ALL);
        leaves("size(1)", desk -> desk.size(1), 2, ALL);
    }

    // "false for no such table"
    private static void refusesClear() {
        for (int table : NO_TABLES) {
            leaves("clear(" + table + ")", desk -> of(desk.clear(table)), 0, ALL);
        }
    }
}
