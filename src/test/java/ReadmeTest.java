/** The example of README.md. */
public final class ReadmeTest {
    public static void main(String[] args) {
        Check check = new Check("ReadmeTest");
        MappingDesk desk = new MappingDesk();
        check.due("feed", desk.feed(0x41414141, 0x2C494141, 0x4D000000, 0, 0), true);
        check.due("end(9)", desk.end(9), true);
        check.due("read(0)", desk.read(0), 2);
        check.due("ask(0, 0, 5, 2)", desk.ask(0, 0, 5, 2), 6);
        check.due("put", desk.put(1, 0, 0, 3, 7, 0, MappingDesk.NONE), 1);
        check.due("compose()", desk.compose(), 2);
        check.due("written", Check.written(desk, 0), "AGOA,IAAA");
        check.finish();
    }
}
