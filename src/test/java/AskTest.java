/** Promise 9. */
public final class AskTest {
    private static final Check CHECK = new Check("AskTest");
    private static final String NOTHING = "-1 -1 -1 -1 -1";

    public static void main(String[] args) {
        MappingDesk desk = new MappingDesk();
        desk.put(0, 1, 10, 1, 100, 1000, 5);
        desk.put(0, 1, 20, 2, 200, 2000, -1);
        desk.put(0, 1, 30, -1, 0, 0, 0);
        desk.put(0, 1, 40, 3, 300, 3000, 6);
        desk.put(0, 1, 40, 4, 400, 4000, 7);
        desk.put(0, 3, 0, 0, 0, 0, 0);
        desk.put(0, 4, 0, 5, 0, 0, 0);
        desk.put(0, 4, 0, -1, 0, 0, 0);
        desk.put(1, 1, 0, 9, 9, 9, 9);

        CHECK.due("ahead of the first", Check.asked(desk, 0, 1, 9), NOTHING);
        CHECK.due("at the first", Check.asked(desk, 0, 1, 10), "1 100 1000 5 0");
        CHECK.due("behind the first", Check.asked(desk, 0, 1, 19), "1 100 1000 5 0");
        CHECK.due("without a name", Check.asked(desk, 0, 1, 20), "2 200 2000 -1 1");
        CHECK.due("at one that tells nothing", Check.asked(desk, 0, 1, 30), NOTHING);
        CHECK.due("behind one that tells nothing", Check.asked(desk, 0, 1, 39), NOTHING);
        CHECK.due("at two of one place", Check.asked(desk, 0, 1, 40), "4 400 4000 7 4");
        CHECK.due("far behind the last", Check.asked(desk, 0, 1, 999999), "4 400 4000 7 4");
        CHECK.due("on the line ahead", Check.asked(desk, 0, 0, 999999), NOTHING);
        CHECK.due("on an empty line between", Check.asked(desk, 0, 2, 0), NOTHING);
        CHECK.due("all of them 0", Check.asked(desk, 0, 3, 0), "0 0 0 0 5");
        CHECK.due("the last of a place tells nothing", Check.asked(desk, 0, 4, 0), NOTHING);
        CHECK.due("on a line that no table has", Check.asked(desk, 0, 200, 0), NOTHING);
        CHECK.due("on the last line of a place", Check.asked(desk, 0, 999999, 0), NOTHING);
        CHECK.due("the other table", Check.asked(desk, 1, 1, 999999), "9 9 9 9 0");

        CHECK.due("no such table", Check.asked(desk, -1, 1, 10), NOTHING);
        CHECK.due("no such table", Check.asked(desk, 2, 1, 10), NOTHING);
        CHECK.due("no such line", Check.asked(desk, 0, -1, 10), NOTHING);
        CHECK.due("no such line", Check.asked(desk, 0, 1000000, 10), NOTHING);
        CHECK.due("no such column", Check.asked(desk, 0, 1, -1), NOTHING);
        CHECK.due("no such column", Check.asked(desk, 0, 1, 1000000), NOTHING);
        CHECK.due("no such column", Check.asked(desk, 0, 1, Integer.MAX_VALUE), NOTHING);
        CHECK.due("no such what", desk.ask(0, 1, 10, -1), MappingDesk.NONE);
        CHECK.due("no such what", desk.ask(0, 1, 10, 5), MappingDesk.NONE);
        CHECK.due("no such what", desk.ask(0, 1, 10, Integer.MIN_VALUE), MappingDesk.NONE);
        CHECK.due("no such what", desk.ask(0, 1, 10, Integer.MAX_VALUE), MappingDesk.NONE);
        CHECK.finish();
    }
}
