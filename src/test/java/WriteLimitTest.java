import java.lang.reflect.Field;

/**
 * Promise 7: "NONE .. when they are more than 6000 (the text stays)". The bounds of a table let no text
 * have more than 5899 characters, so no calls lead there: this test alone reaches into the object and
 * gives some segments numbers that are longer than any that can be put or read.
 */
public final class WriteLimitTest {
    private static final Check CHECK = new Check("WriteLimitTest");
    /** Its number has six characters; those of a place have five at most. */
    private static final int LONGER = 1 << 24;

    public static void main(String[] args) throws ReflectiveOperationException {
        writesOrRefuses(100, false, 5999);
        writesOrRefuses(100, true, 6000);
        writesOrRefuses(102, false, 6001);
        writesOrRefuses(102, true, 6002);
        writesOrRefuses(300, false, 6199);
        CHECK.finish();
    }

    private static void writesOrRefuses(int longer, boolean oneMore, int length) throws ReflectiveOperationException {
        MappingDesk desk = new MappingDesk();
        putTheLongest(desk);
        int[] sourceLines = row(desk, "sourceLines");
        for (int i = 0; i < longer; i++) {
            sourceLines[i] = i % 2 == 0 ? LONGER : 0;
        }
        if (oneMore) {
            row(desk, "sourceColumns")[299] = 999999 + LONGER;
        }
        desk.put(1, 3, 1, -1, 0, 0, -1);
        CHECK.due("write(1)", desk.write(1), 4);
        boolean isWritten = length <= 6000;
        CHECK.due("write(0) of " + length, desk.write(0), isWritten ? length : MappingDesk.NONE);
        if (isWritten) {
            CHECK.due("textAt(0)", Check.fetch(desk, 0), 'g');
            CHECK.due("textAt of the last", Check.fetch(desk, length - 1), 'G');
            CHECK.due("textAt behind it", Check.fetch(desk, length), Check.THROWS);
        } else {
            CHECK.due("the text stays", Check.wholeText(desk), ";;;C");
            CHECK.due("write(0) again", desk.write(0), MappingDesk.NONE);
            CHECK.due("the text stays", Check.wholeText(desk), ";;;C");
        }
        CHECK.due("size(0)", desk.size(0), 300);
        CHECK.due("size(1)", desk.size(1), 1);
        CHECK.due("write(1) after it", desk.write(1), 4);
        CHECK.due("the text then", Check.wholeText(desk), ";;;C");
    }

    private static void putTheLongest(MappingDesk desk) {
        for (int i = 0; i < 300; i++) {
            int line = i < 200 ? i / 2 : i - 100;
            int column = i < 200 && i % 2 == 1 ? 999999 : 600000;
            int top = i % 2 == 0 ? 99 : 0;
            int place = i % 2 == 0 ? 999999 : 0;
            desk.put(0, line, column, top, place, place, top);
        }
    }

    private static int[] row(MappingDesk desk, String name) throws ReflectiveOperationException {
        Field table = MappingDesk.class.getDeclaredField("zero");
        table.setAccessible(true);
        Object zero = table.get(desk);
        Field row = zero.getClass().getDeclaredField(name);
        row.setAccessible(true);
        return (int[]) row.get(zero);
    }
}
