/** Every text of up to five of these parts, read by a desk and by the model beside it. */
public final class EveryShortTextTest {
    private static final Check CHECK = new Check("EveryShortTextTest");
    private static final String[] PARTS = {"A", "C", "D", "AAAA", "CCCCC", "g", "ggggggE", ",", ";", "!"};
    private static final int MOST_PARTS = 5;
    private static final int TEXTS_OF_DESK = 40;

    private static MappingDesk desk;
    private static Model model;
    private static int texts;

    public static void main(String[] args) {
        readAllFrom("", MOST_PARTS);
        CHECK.finish();
    }

    private static void readAllFrom(String text, int more) {
        readText(text);
        for (int i = 0; more > 0 && i < PARTS.length; i++) {
            readAllFrom(text + PARTS[i], more - 1);
        }
    }

    private static void readText(String text) {
        // No more texts than 512 calls are enough for.
        if (texts % TEXTS_OF_DESK == 0) {
            desk = new MappingDesk();
            model = new Model();
        }
        int table = texts % 2;
        texts++;
        model.tape = text;
        int due = model.read(table);
        CHECK.due("read(" + table + ") of " + text, Check.read(desk, table, text), due);
        CHECK.due("fault() of " + text, desk.fault(), model.fault);
        CHECK.due("size(" + table + ") of " + text, desk.size(table), model.size(table));
        CHECK.due("write(" + table + ") of " + text, desk.write(table), model.write(table));
        if (!model.text.isEmpty()) {
            int last = model.text.length() - 1;
            CHECK.due("last character of " + text, Check.fetch(desk, last), model.text.charAt(last));
        }
    }
}
