/** Promise 10. */
public final class ComposeTest {
    private static final Check CHECK = new Check("ComposeTest");

    public static void main(String[] args) {
        putsOneBehindTheOther();
        keepsNameZero();
        composesOfNothing();
        goesOnAndOn();
        asksAheadAtAndBehindAPlace();
        asksLinesThatNoTableHas();
        takesNamesAtTheirBounds();
        looksAtNoSource();
        leavesWhatTellsNothing();
        keepsPlacesAndOrder();
        composesFullTables();
        changesNothingElse();
        CHECK.finish();
    }

    private static void putsOneBehindTheOther() {
        MappingDesk desk = new MappingDesk();
        desk.put(1, 5, 10, 7, 70, 700, 17);
        desk.put(1, 5, 20, 8, 80, 800, -1);
        desk.put(1, 5, 30, -1, 0, 0, 0);
        desk.put(1, 6, 0, 9, 90, 900, 19);
        desk.put(1, 6, 0, 10, 91, 901, 20);

        desk.put(0, 0, 0, 1, 5, 10, 3);
        desk.put(0, 0, 1, 2, 5, 19, -1);
        desk.put(0, 0, 2, 1, 5, 25, 4);
        desk.put(0, 0, 3, 1, 5, 29, -1);
        desk.put(0, 0, 4, 1, 5, 30, 5);
        desk.put(0, 0, 5, 1, 5, 9, 6);
        desk.put(0, 0, 6, -1, 0, 0, 0);
        desk.put(0, 0, 7, 99, 6, 999999, -1);
        desk.put(0, 0, 8, 1, 999999, 0, 7);
        CHECK.due("compose()", desk.compose(), 5);
        CHECK.due("size(0)", desk.size(0), 9);
        CHECK.due("its own name", Check.asked(desk, 0, 0, 0), "7 70 700 3 0");
        CHECK.due("the name behind", Check.asked(desk, 0, 0, 1), "7 70 700 17 1");
        CHECK.due("its own name alone", Check.asked(desk, 0, 0, 2), "8 80 800 4 2");
        CHECK.due("no name", Check.asked(desk, 0, 0, 3), "8 80 800 -1 3");
        CHECK.due("nothing told behind", desk.ask(0, 0, 4, 0), MappingDesk.NONE);
        CHECK.due("none behind", desk.ask(0, 0, 5, 0), MappingDesk.NONE);
        CHECK.due("nothing told", desk.ask(0, 0, 6, 0), MappingDesk.NONE);
        CHECK.due("the last of a place", Check.asked(desk, 0, 0, 7), "10 91 901 20 7");
        CHECK.due("no line behind", desk.ask(0, 0, 8, 3), MappingDesk.NONE);
        // What tells nothing any more has no name either, or the text would have two numbers.
        desk.write(0);
        CHECK.due("read(0) of what was written", Check.read(desk, 0, Check.written(desk, 0)), 9);
        CHECK.due("table 1 stays", Check.written(desk, 1), ";;;;;UOsE4rBiB,UCUoG,U;ACUoGE,ACCCC");
    }

    private static void keepsNameZero() {
        MappingDesk desk = new MappingDesk();
        desk.put(0, 0, 0, 0, 0, 0, 0);
        desk.put(1, 0, 0, 0, 0, 0, 5);
        CHECK.due("compose()", desk.compose(), 1);
        CHECK.due("its own name 0", desk.ask(0, 0, 0, 3), 0);
        desk.clear(0);
        desk.clear(1);
        desk.put(0, 0, 0, 0, 0, 0, -1);
        desk.put(1, 0, 0, 0, 0, 0, 0);
        CHECK.due("compose()", desk.compose(), 1);
        CHECK.due("name 0 behind", desk.ask(0, 0, 0, 3), 0);
    }

    private static void composesOfNothing() {
        MappingDesk desk = new MappingDesk();
        CHECK.due("compose() of empty tables", desk.compose(), 0);
        desk.put(1, 0, 0, 1, 1, 1, 1);
        CHECK.due("compose() of an empty table 0", desk.compose(), 0);
        CHECK.due("size(0)", desk.size(0), 0);
        desk.clear(1);
        desk.put(0, 0, 0, 1, 1, 1, 1);
        desk.put(0, 0, 1, -1, 0, 0, 0);
        CHECK.due("compose() with an empty table 1", desk.compose(), 0);
        CHECK.due("size(0)", desk.size(0), 2);
        CHECK.due("written", Check.written(desk, 0), "A,C");
    }

    private static void goesOnAndOn() {
        MappingDesk desk = new MappingDesk();
        desk.put(1, 0, 0, 3, 0, 5, -1);
        desk.put(1, 0, 5, 4, 0, 9, 8);
        desk.put(1, 0, 9, 5, 1, 0, 9);
        desk.put(0, 0, 0, 0, 0, 0, -1);
        CHECK.due("compose()", desk.compose(), 1);
        CHECK.due("once", Check.asked(desk, 0, 0, 0), "3 0 5 -1 0");
        CHECK.due("compose()", desk.compose(), 1);
        CHECK.due("twice", Check.asked(desk, 0, 0, 0), "4 0 9 8 0");
        CHECK.due("compose()", desk.compose(), 1);
        CHECK.due("three times", Check.asked(desk, 0, 0, 0), "5 1 0 8 0");
        CHECK.due("compose()", desk.compose(), 0);
        CHECK.due("four times", Check.asked(desk, 0, 0, 0), "-1 -1 -1 -1 -1");
        CHECK.due("compose()", desk.compose(), 0);
    }

    // "1 is asked for its source's line and column": a step to either side of what 1 has
    private static void asksAheadAtAndBehindAPlace() {
        for (int column : new int[] {0, 1, 999998, 999999}) {
            for (int asked = column - 1; asked <= column + 1; asked++) {
                if (asked < 0 || asked > 999999) {
                    continue;
                }
                boolean isTold = asked >= column;
                MappingDesk desk = new MappingDesk();
                desk.put(1, 5, column, 7, 8, 9, 10);
                desk.put(0, 2, 3, 1, 5, asked, -1);
                CHECK.due("compose() at column " + asked + " of " + column, desk.compose(), isTold ? 1 : 0);
                CHECK.due("asked then", Check.asked(desk, 0, 2, 3), isTold ? "7 8 9 10 0" : "-1 -1 -1 -1 -1");
                CHECK.due("size(0) then", desk.size(0), 1);
                CHECK.due("table 1 stays", Check.asked(desk, 1, 5, column), "7 8 9 10 0");
            }
        }
    }

    private static void asksLinesThatNoTableHas() {
        for (int line : new int[] {0, 1, 197, 198, 199, 200, 201, 999998, 999999}) {
            MappingDesk desk = new MappingDesk();
            desk.put(1, 0, 0, 10, 1, 1, 1);
            desk.put(1, 198, 0, 20, 2, 2, 2);
            desk.put(1, 199, 0, 30, 3, 3, 3);
            desk.put(0, 0, 0, 0, line, 999999, -1);
            int due = line == 0 ? 10 : line == 198 ? 20 : line == 199 ? 30 : MappingDesk.NONE;
            CHECK.due("compose() at line " + line, desk.compose(), due < 0 ? 0 : 1);
            CHECK.due("source then", desk.ask(0, 0, 0, 0), due);
        }
    }

    // "with its own name, if it has one, else with that"
    private static void takesNamesAtTheirBounds() {
        for (int own : new int[] {-1, 0, 1, 98, 99}) {
            for (int that : new int[] {-1, 0, 1, 98, 99}) {
                MappingDesk desk = new MappingDesk();
                desk.put(0, 0, 0, 0, 0, 0, own);
                desk.put(1, 0, 0, 99, 999999, 999999, that);
                CHECK.due("compose() with names " + own + " and " + that, desk.compose(), 1);
                int name = own < 0 ? that : own;
                CHECK.due("asked then", Check.asked(desk, 0, 0, 0), "99 999999 999999 " + name + " 0");
                CHECK.due("that name stays", desk.ask(1, 0, 0, 3), that);
            }
        }
    }

    // Nothing is said of the source's number there: the line and column alone are asked for.
    private static void looksAtNoSource() {
        for (int source : new int[] {0, 1, 98, 99}) {
            MappingDesk desk = new MappingDesk();
            desk.put(0, 0, 0, source, 0, 0, -1);
            desk.put(1, 0, 0, 42, 0, 0, -1);
            CHECK.due("compose() with source " + source, desk.compose(), 1);
            CHECK.due("source then", desk.ask(0, 0, 0, 0), 42);
        }
    }

    // "else it tells nothing; others stay"
    private static void leavesWhatTellsNothing() {
        MappingDesk desk = new MappingDesk();
        desk.put(0, 0, 0, -1, 0, 0, 0);
        desk.put(0, 0, 1, 0, 9, 9, 5);
        desk.put(0, 0, 2, -1, 0, 0, 0);
        desk.put(1, 0, 0, 42, 1, 1, 1);
        CHECK.due("compose()", desk.compose(), 0);
        CHECK.due("written", Check.written(desk, 0), "A,C,C");
        CHECK.due("compose() again", desk.compose(), 0);
        CHECK.due("written", Check.written(desk, 0), "A,C,C");
    }

    private static void keepsPlacesAndOrder() {
        MappingDesk desk = new MappingDesk();
        // What comes behind turns the sources round; the segments' own places stay as they were.
        desk.put(0, 0, 0, 0, 0, 0, -1);
        desk.put(0, 0, 0, 0, 0, 1, -1);
        desk.put(0, 199, 999999, 0, 0, 2, -1);
        desk.put(1, 0, 0, 3, 0, 0, -1);
        desk.put(1, 0, 1, 2, 0, 0, -1);
        desk.put(1, 0, 2, 1, 0, 0, -1);
        CHECK.due("compose()", desk.compose(), 3);
        CHECK.due("written", Check.written(desk, 0), "AGAA,ADAA" + ";".repeat(199) + "+jh9BDAA");
    }

    private static void composesFullTables() {
        MappingDesk desk = new MappingDesk();
        CHECK.due("read(0)", Check.read(desk, 0, "AAAA" + ",CAAC".repeat(299)), 300);
        CHECK.due("read(1)", Check.read(desk, 1, "A" + ",CACA".repeat(299)), 300);
        CHECK.due("compose()", desk.compose(), 299);
        CHECK.due("size(0)", desk.size(0), 300);
        CHECK.due("size(1)", desk.size(1), 300);
        CHECK.due("the first", Check.asked(desk, 0, 0, 0), "-1 -1 -1 -1 -1");
        CHECK.due("the second", Check.asked(desk, 0, 0, 1), "0 1 0 -1 1");
        CHECK.due("the last but one", Check.asked(desk, 0, 0, 298), "0 298 0 -1 298");
        CHECK.due("the last", Check.asked(desk, 0, 0, 299), "0 299 0 -1 299");
    }

    private static void changesNothingElse() {
        MappingDesk desk = new MappingDesk();
        Check.read(desk, 0, "AAAA,CAAC");
        Check.read(desk, 1, "AGEC");
        desk.write(0);
        Check.read(desk, 0, "AA");
        Check.tape(desk, "E,E");
        CHECK.due("compose()", desk.compose(), 2);
        CHECK.due("state", Check.state(desk),
                "text AAAA,CAAC fault 3 zero 2 AGEC,CAAA one 1 AGEC tape 2 0 E,E");
    }
}
