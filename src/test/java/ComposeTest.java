/** Promise 10. */
public final class ComposeTest {
    private static final Check CHECK = new Check("ComposeTest");

    public static void main(String[] args) {
        putsOneBehindTheOther();
        keepsNameZero();
        composesOfNothing();
        goesOnAndOn();
        CHECK.finish();
    }

    private static void putsOneBehindTheOther() {
        MappingDesk desk = new MappingDesk();
        desk.put(1, 5, 10, 7, 70, 700, 17);
        desk.put(1, 5, 20, 8, 80, 800, -1);
        desk.put(1, 5, 30, -1, 0, 0, 0);
        desk.put(1, 6, 0, 9, 90, 900, 19);
        desk.put(1, 6, 0, 10, 91, 901, 20);

        desk.put(0, 0, 0, 1, 5, 10, 3);
        desk.put(0, 0, 1, 2, 5, 19, -1);
        desk.put(0, 0, 2, 1, 5, 25, 4);
        desk.put(0, 0, 3, 1, 5, 29, -1);
        desk.put(0, 0, 4, 1, 5, 30, 5);
        desk.put(0, 0, 5, 1, 5, 9, 6);
        desk.put(0, 0, 6, -1, 0, 0, 0);
        desk.put(0, 0, 7, 99, 6, 999999, -1);
        desk.put(0, 0, 8, 1, 999999, 0, 7);
        CHECK.due("compose()", desk.compose(), 5);
        CHECK.due("size(0)", desk.size(0), 9);
        CHECK.due("its own name", Check.asked(desk, 0, 0, 0), "7 70 700 3 0");
        CHECK.due("the name behind", Check.asked(desk, 0, 0, 1), "7 70 700 17 1");
        CHECK.due("its own name alone", Check.asked(desk, 0, 0, 2), "8 80 800 4 2");
        CHECK.due("no name", Check.asked(desk, 0, 0, 3), "8 80 800 -1 3");
        CHECK.due("nothing told behind", desk.ask(0, 0, 4, 0), MappingDesk.NONE);
        CHECK.due("none behind", desk.ask(0, 0, 5, 0), MappingDesk.NONE);
        CHECK.due("nothing told", desk.ask(0, 0, 6, 0), MappingDesk.NONE);
        CHECK.due("the last of a place", Check.asked(desk, 0, 0, 7), "10 91 901 20 7");
        CHECK.due("no line behind", desk.ask(0, 0, 8, 3), MappingDesk.NONE);
        // What tells nothing any more has no name either, or the text would have two numbers.
        desk.write(0);
        CHECK.due("read(0) of what was written", Check.read(desk, 0, Check.written(desk, 0)), 9);
        CHECK.due("table 1 stays", Check.written(desk, 1), ";;;;;UOsE4rBiB,UCUoG,U;ACUoGE,ACCCC");
    }

    private static void keepsNameZero() {
        MappingDesk desk = new MappingDesk();
        desk.put(0, 0, 0, 0, 0, 0, 0);
        desk.put(1, 0, 0, 0, 0, 0, 5);
        CHECK.due("compose()", desk.compose(), 1);
        CHECK.due("its own name 0", desk.ask(0, 0, 0, 3), 0);
        desk.clear(0);
        desk.clear(1);
        desk.put(0, 0, 0, 0, 0, 0, -1);
        desk.put(1, 0, 0, 0, 0, 0, 0);
        CHECK.due("compose()", desk.compose(), 1);
        CHECK.due("name 0 behind", desk.ask(0, 0, 0, 3), 0);
    }

    private static void composesOfNothing() {
        MappingDesk desk = new MappingDesk();
        CHECK.due("compose() of empty tables", desk.compose(), 0);
        desk.put(1, 0, 0, 1, 1, 1, 1);
        CHECK.due("compose() of an empty table 0", desk.compose(), 0);
        CHECK.due("size(0)", desk.size(0), 0);
        desk.clear(1);
        desk.put(0, 0, 0, 1, 1, 1, 1);
        desk.put(0, 0, 1, -1, 0, 0, 0);
        CHECK.due("compose() with an empty table 1", desk.compose(), 0);
        CHECK.due("size(0)", desk.size(0), 2);
        CHECK.due("written", Check.written(desk, 0), "A,C");
    }

    private static void goesOnAndOn() {
        MappingDesk desk = new MappingDesk();
        desk.put(1, 0, 0, 3, 0, 5, -1);
        desk.put(1, 0, 5, 4, 0, 9, 8);
        desk.put(1, 0, 9, 5, 1, 0, 9);
        desk.put(0, 0, 0, 0, 0, 0, -1);
        CHECK.due("compose()", desk.compose(), 1);
        CHECK.due("once", Check.asked(desk, 0, 0, 0), "3 0 5 -1 0");
        CHECK.due("compose()", desk.compose(), 1);
        CHECK.due("twice", Check.asked(desk, 0, 0, 0), "4 0 9 8 0");
        CHECK.due("compose()", desk.compose(), 1);
        CHECK.due("three times", Check.asked(desk, 0, 0, 0), "5 1 0 8 0");
        CHECK.due("compose()", desk.compose(), 0);
        CHECK.due("four times", Check.asked(desk, 0, 0, 0), "-1 -1 -1 -1 -1");
        CHECK.due("compose()", desk.compose(), 0);
    }
}
