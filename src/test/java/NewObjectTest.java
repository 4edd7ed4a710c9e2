/** Promise 1. */
public final class NewObjectTest {
    public static void main(String[] args) {
        Check check = new Check("NewObjectTest");
        MappingDesk desk = new MappingDesk();
        check.due("size(0)", desk.size(0), 0);
        check.due("size(1)", desk.size(1), 0);
        check.due("fault()", desk.fault(), 0);
        check.due("textAt(0)", Check.fetch(desk, 0), Check.THROWS);
        check.due("textAt(-1)", Check.fetch(desk, -1), Check.THROWS);
        check.due("textAt(1)", Check.fetch(desk, 1), Check.THROWS);
        check.due("end(-1) of an empty tape", desk.end(-1), false);
        check.due("end(1) of an empty tape", desk.end(1), false);
        check.due("end(0) of an empty tape", desk.end(0), true);
        check.due("ask(0, 0, 0, 0)", desk.ask(0, 0, 0, 0), MappingDesk.NONE);
        check.due("ask(1, 0, 0, 4)", desk.ask(1, 0, 0, 4), MappingDesk.NONE);
        check.due("compose()", desk.compose(), 0);
        check.due("write(0)", desk.write(0), 0);
        check.due("write(1)", desk.write(1), 0);
        check.due("read(0)", desk.read(0), 0);
        check.due("read(1)", desk.read(1), 0);

        check.due("state", Check.state(new MappingDesk()), "text  fault 0 zero 0  one 0  tape 0 0 ");

        MappingDesk used = new MappingDesk();
        Check.read(used, 0, "AAAAA");
        used.put(1, 0, 0, 1, 1, 1, 1);
        used.write(0);
        MappingDesk other = new MappingDesk();
        check.due("size(0) beside a used object", other.size(0), 0);
        check.due("size(1) beside a used object", other.size(1), 0);
        check.due("textAt(0) beside a used object", Check.fetch(other, 0), Check.THROWS);
        check.finish();
    }
}
