/** Promises 11 and 12. */
public final class SizeAndClearTest {
    private static final Check CHECK = new Check("SizeAndClearTest");

    public static void main(String[] args) {
        MappingDesk desk = new MappingDesk();
        Check.read(desk, 0, "AAAA,A;;C");
        Check.readMany(desk, 1, 300);
        CHECK.due("size(0)", desk.size(0), 3);
        CHECK.due("size(1)", desk.size(1), 300);
        for (int table : new int[] {-1, 2, Integer.MIN_VALUE, Integer.MAX_VALUE}) {
            CHECK.due("size(" + table + ")", desk.size(table), MappingDesk.NONE);
            CHECK.due("clear(" + table + ")", desk.clear(table), false);
        }
        CHECK.due("size(0) then", desk.size(0), 3);
        CHECK.due("size(1) then", desk.size(1), 300);

        Check.tape(desk, "G");
        desk.write(0);
        CHECK.due("clear(1)", desk.clear(1), true);
        CHECK.due("size(1)", desk.size(1), 0);
        CHECK.due("size(0) stays", desk.size(0), 3);
        CHECK.due("clear(0)", desk.clear(0), true);
        CHECK.due("size(0)", desk.size(0), 0);
        CHECK.due("clear(0) again", desk.clear(0), true);
        CHECK.due("ask(0, 0, 0, 0)", desk.ask(0, 0, 0, 0), MappingDesk.NONE);
        CHECK.due("the text stays", Check.text(desk, 9), "AAAA,A;;C");
        CHECK.due("the tape stays", desk.read(0), 1);
        CHECK.due("put after clear", desk.put(1, 0, 0, -1, 0, 0, 0), 1);
        CHECK.due("written", Check.written(desk, 1), "A");
        CHECK.finish();
    }
}
