/** Promise 4, but for the faults, which FaultTest has. */
public final class ReadTest {
    private static final Check CHECK = new Check("ReadTest");

    public static void main(String[] args) {
        readsSegments();
        readsNumbers();
        replacesTheTable();
        emptiesTheTape();
        reachesItsLimits();
        readsTheEmptyText();
        readsEmptyLines();
        answersEachPlaceOfAFullTape();
        takesTables0And1();
        CHECK.finish();
    }

    private static void readsSegments() {
        MappingDesk desk = new MappingDesk();
        // A column goes on from the segment ahead even if that tells nothing; the rest from the latest that tells.
        CHECK.due("read(0)", Check.read(desk, 0, "ACEGC,E,EADDA;;ADCAE;"), 4);
        CHECK.due("first", Check.asked(desk, 0, 0, 0), "1 2 3 1 0");
        CHECK.due("second tells nothing", Check.asked(desk, 0, 0, 2), "-1 -1 -1 -1 -1");
        CHECK.due("third", Check.asked(desk, 0, 0, 4), "1 1 2 1 2");
        CHECK.due("line 1 is empty", Check.asked(desk, 0, 1, 9), "-1 -1 -1 -1 -1");
        CHECK.due("on line 2", Check.asked(desk, 0, 2, 0), "0 2 2 3 3");
        CHECK.due("written", Check.written(desk, 0), "ACEGC,E,EADDA;;ADCAE");

        CHECK.due("four numbers leave the name ahead", Check.read(desk, 0, "AAAAG,CAAA,CAAAC"), 3);
        CHECK.due("no name", desk.ask(0, 0, 1, 3), MappingDesk.NONE);
        CHECK.due("name 3 and 1", desk.ask(0, 0, 2, 3), 4);

        CHECK.due("empty text", Check.read(desk, 0, ""), 0);
        CHECK.due("one ;", Check.read(desk, 0, ";"), 0);
        CHECK.due("; at both ends", Check.read(desk, 0, ";;A;;"), 1);
        CHECK.due("written", Check.written(desk, 0), ";;A");
        CHECK.due("columns begin anew on a line", Check.read(desk, 0, "C,C;C,A"), 4);
        CHECK.due("written", Check.written(desk, 0), "C,C;C,A");
    }

    private static void readsNumbers() {
        MappingDesk desk = new MappingDesk();
        CHECK.due("every last digit", Check.read(desk, 0, "A,B,C,E,G,I,K,M,O,Q,S,U,W,Y,a,c,e"), 17);
        CHECK.due("written", Check.written(desk, 0), "A,A,C,E,G,I,K,M,O,Q,S,U,W,Y,a,c,e");
        CHECK.due("every first digit", Check.read(desk, 0, "gB,iB,kB,mB,oB,qB,sB,uB,wB,yB,0B,2B,4B,6B,8B,+B"), 16);
        CHECK.due("written", Check.written(desk, 0), "gB,iB,kB,mB,oB,qB,sB,uB,wB,yB,0B,2B,4B,6B,8B,+B");
        CHECK.due("a sign with size 0", Check.read(desk, 0, "BBBBB,hA"), 2);
        CHECK.due("written", Check.written(desk, 0), "AAAAA,A");
        CHECK.due("digits without bits behind", Check.read(desk, 0, "igggggggggggggggggggA"), 1);
        CHECK.due("written", Check.written(desk, 0), "C");
        CHECK.due("a column of 999999", Check.read(desk, 0, "+jh9B"), 1);
        CHECK.due("written", Check.written(desk, 0), "+jh9B");
        CHECK.due("all at the top", Check.read(desk, 0, "AmG+jh9B+jh9BmG,AnG/jh9B/jh9BnG"), 2);
        CHECK.due("written", Check.written(desk, 0), "AmG+jh9B+jh9BmG,AnG/jh9B/jh9BnG");
        CHECK.due("at column 0 the later is asked", Check.asked(desk, 0, 0, 0), "0 0 0 0 1");
    }

    private static void replacesTheTable() {
        MappingDesk desk = new MappingDesk();
        Check.read(desk, 0, "A,C,E");
        Check.read(desk, 1, "AAAA");
        CHECK.due("size(0)", desk.size(0), 3);
        CHECK.due("size(1)", desk.size(1), 1);
        CHECK.due("a fault", Check.read(desk, 0, "AAAAA,CCCCC,!"), -2 - 12);
        CHECK.due("the table stays", Check.written(desk, 0), "A,C,E");
        CHECK.due("read(1)", Check.read(desk, 1, "C,C"), 2);
        CHECK.due("the other table stays", Check.written(desk, 0), "A,C,E");
        CHECK.due("read(0)", Check.read(desk, 0, "E"), 1);
        CHECK.due("table 0", Check.written(desk, 0), "E");
        CHECK.due("table 1", Check.written(desk, 1), "C,C");
        CHECK.due("read(0) of nothing", desk.read(0), 0);
        CHECK.due("size(0)", desk.size(0), 0);
        CHECK.due("size(1)", desk.size(1), 2);
    }

    private static void emptiesTheTape() {
        MappingDesk desk = new MappingDesk();
        Check.read(desk, 0, "A");
        CHECK.due("end(1) after a read", desk.end(1), false);
        Check.read(desk, 0, "!");
        CHECK.due("end(1) after a fault", desk.end(1), false);
        for (int table : new int[] {-1, 2, Integer.MIN_VALUE, Integer.MAX_VALUE}) {
            Check.tape(desk, "A,A");
            CHECK.due("read(" + table + ")", desk.read(table), MappingDesk.NONE);
            CHECK.due("end(1) after no such table", desk.end(1), false);
        }
        CHECK.due("size(0)", desk.size(0), 1);
        CHECK.due("size(1)", desk.size(1), 0);
    }

    private static void reachesItsLimits() {
        MappingDesk desk = new MappingDesk();
        CHECK.due("300 segments", Check.readMany(desk, 0, 300), 300);
        CHECK.due("301 segments", Check.readMany(desk, 0, 301), -2 - 600);
        CHECK.due("fault()", desk.fault(), 5);
        CHECK.due("199 ;", Check.read(desk, 0, ";".repeat(199) + "A"), 1);
        CHECK.due("on line 199", desk.write(0), 200);
        CHECK.due("200 ;", Check.read(desk, 0, ";".repeat(200)), -2 - 199);
        CHECK.due("fault()", desk.fault(), 5);
        MappingDesk full = new MappingDesk();
        CHECK.due("3000 characters", Check.read(full, 1, "AgggggggggA".repeat(4) + "g".repeat(2955) + "A"), -2);
        CHECK.due("fault()", full.fault(), 3);
        CHECK.due("one number of 3000 characters", Check.read(full, 1, "i" + "g".repeat(2998) + "A"), 1);
    }

    // "An empty text is the empty table"
    private static void readsTheEmptyText() {
        for (int table = 0; table <= 1; table++) {
            MappingDesk desk = new MappingDesk();
            CHECK.due("read of a tape that is empty from the start", desk.read(table), 0);
            CHECK.due("put", desk.put(table, 0, 0, 1, 1, 1, 1), 1);
            CHECK.due("put in the other", desk.put(1 - table, 0, 0, 1, 1, 1, 1), 1);
            CHECK.due("read", Check.read(desk, table, ""), 0);
            CHECK.due("fault()", desk.fault(), 0);
            CHECK.due("size", desk.size(table), 0);
            CHECK.due("the other's size", desk.size(1 - table), 1);
            CHECK.due("ask", desk.ask(table, 0, 0, 0), MappingDesk.NONE);
            CHECK.due("read of one character", Check.read(desk, table, "A"), 1);
            CHECK.due("read", Check.read(desk, table, ""), 0);
        }
    }

    // "; at the end, and empty lines, may be"
    private static void readsEmptyLines() {
        String[] texts = {";", ";;", "A;", "A;;", ";A", ";A;", ";;A;;", "A;;C", "AAAA;", "AAAAA;;CAAAA;"};
        String[] written = {"", "", "A", "A", ";A", ";A", ";;A", "A;;C", "AAAA", "AAAAA;;CAAAA"};
        int[] segments = {0, 0, 1, 1, 1, 1, 1, 2, 1, 2};
        for (int i = 0; i < texts.length; i++) {
            MappingDesk desk = new MappingDesk();
            CHECK.due("read of " + texts[i], Check.read(desk, 0, texts[i]), segments[i]);
            CHECK.due("fault() of " + texts[i], desk.fault(), 0);
            CHECK.due("written of " + texts[i], Check.written(desk, 0), written[i]);
        }
    }

    // "-2 - the place of the first fault": -2 at place 0, where NONE is -1, down to -3002 at a full tape's end
    private static void answersEachPlaceOfAFullTape() {
        for (int place : new int[] {0, 1, 19, 20, 21, 2979, 2980, 2998, 2999}) {
            MappingDesk desk = new MappingDesk();
            String text = "g".repeat(place) + "!" + "g".repeat(2999 - place);
            CHECK.due("a wrong character at " + place, Check.read(desk, 0, text), -2 - place);
            CHECK.due("fault()", desk.fault(), 1);
        }
        MappingDesk desk = new MappingDesk();
        CHECK.due("3000 without an end", Check.read(desk, 0, "g".repeat(3000)), -3002);
        CHECK.due("fault()", desk.fault(), 2);
        CHECK.due("2999 and an end", Check.read(desk, 0, "g".repeat(2999) + "A"), 1);
        CHECK.due("fault()", desk.fault(), 0);
    }

    // "NONE for no such table": one step to either side of 0 and 1
    private static void takesTables0And1() {
        for (int table = -2; table <= 3; table++) {
            MappingDesk desk = new MappingDesk();
            boolean is = table == 0 || table == 1;
            CHECK.due("read(" + table + ")", Check.read(desk, table, "A,A"), is ? 2 : MappingDesk.NONE);
            CHECK.due("size(0)", desk.size(0), table == 0 ? 2 : 0);
            CHECK.due("size(1)", desk.size(1), table == 1 ? 2 : 0);
            CHECK.due("end(1)", desk.end(1), false);
            CHECK.due("read(" + table + ") of nothing", desk.read(table), is ? 0 : MappingDesk.NONE);
        }
    }
}
