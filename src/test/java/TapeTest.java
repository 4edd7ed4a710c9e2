/** Promises 2 and 3. */
public final class TapeTest {
    private static final Check CHECK = new Check("TapeTest");

    public static void main(String[] args) {
        feedsHighestByteFirst();
        keepsThreeThousandBytes();
        endsTheTape();
        feedsBehindTheEnd();
        feedsUpTo3000AndNoMore();
        endsAtWhatItHasAndNoMore();
        endsAgain();
        CHECK.finish();
    }

    /**
     * A tape of so many g: one number without an end, so that a read of it answers where it ends, and a
     * changed byte would be found ahead of that.
     */
    private static MappingDesk openNumber(int length) {
        MappingDesk desk = new MappingDesk();
        for (int fed = 0; fed < length; fed += 20) {
            desk.feed(0x67676767, 0x67676767, 0x67676767, 0x67676767, 0x67676767);
        }
        desk.end(length);
        return desk;
    }

    private static void isOpenNumber(String call, MappingDesk desk, int length) {
        CHECK.due("read(0) after " + call, desk.read(0), length == 0 ? 0 : -2 - length);
        CHECK.due("fault() after " + call, desk.fault(), length == 0 ? 0 : 2);
        CHECK.due("end(1) after the read", desk.end(1), false);
        CHECK.due("end(0) after the read", desk.end(0), true);
    }

    // "false, changing nothing, when it would have more than 3000"
    private static void feedsUpTo3000AndNoMore() {
        for (int length : new int[] {0, 1, 19, 20, 2960, 2979, 2980, 2981, 2999, 3000}) {
            boolean hasRoom = length <= 2980;
            String call = "feed at " + length;
            MappingDesk desk = openNumber(length);
            CHECK.due(call, desk.feed(0x67676767, 0x67676767, 0x67676767, 0x67676767, 0x67676767), hasRoom);
            isOpenNumber(call, desk, hasRoom ? length + 20 : length);
            desk = openNumber(length);
            CHECK.due(call, desk.feed(0, 0, 0, 0, 0), hasRoom);
            if (hasRoom) {
                CHECK.due("read(0) after " + call, desk.read(0), -2 - length);
                CHECK.due("fault() after " + call, desk.fault(), 1);
            } else {
                CHECK.due("end(" + (length + 1) + ") after " + call, desk.end(length + 1), false);
                isOpenNumber(call, desk, length);
            }
        }
    }

    // "false, changing nothing, when it has not so many, or n is below 0"
    private static void endsAtWhatItHasAndNoMore() {
        for (int length : new int[] {0, 1, 20, 21, 2999, 3000}) {
            int[] ends = {Integer.MIN_VALUE, -2, -1, 0, 1, length - 1, length, length + 1, length + 20, 3001,
                Integer.MAX_VALUE};
            for (int n : ends) {
                boolean isEnded = n >= 0 && n <= length;
                String call = "end(" + n + ") of " + length;
                MappingDesk desk = openNumber(length);
                CHECK.due(call, desk.end(n), isEnded);
                isOpenNumber(call, desk, isEnded ? n : length);
            }
        }
    }

    private static void endsAgain() {
        MappingDesk desk = openNumber(40);
        CHECK.due("end(30)", desk.end(30), true);
        CHECK.due("end(31) after end(30)", desk.end(31), false);
        CHECK.due("end(30) after end(30)", desk.end(30), true);
        CHECK.due("end(29) after end(30)", desk.end(29), true);
        CHECK.due("end(30) after end(29)", desk.end(30), false);
        isOpenNumber("end(29)", desk, 29);
    }

    // Every byte of the tape is shown by the place of the one that is no character of a text.
    private static void feedsHighestByteFirst() {
        int a = 0x41414141;
        for (int place = 0; place < 20; place++) {
            int[] numbers = {a, a, a, a, a};
            numbers[place / 4] ^= 0xFF << (24 - place % 4 * 8);
            MappingDesk desk = new MappingDesk();
            CHECK.due("feed", desk.feed(numbers[0], numbers[1], numbers[2], numbers[3], numbers[4]), true);
            CHECK.due("read(0) with a wrong byte at " + place, desk.read(0), -2 - place);
            CHECK.due("fault()", desk.fault(), 1);
        }
        MappingDesk desk = new MappingDesk();
        desk.feed(0x3B3B3B3B, 0x3B3B3B3B, 0x3B3B3B3B, 0x3B3B3B3B, 0x3B3B3B41);
        CHECK.due("read(0) of nineteen ; and A", desk.read(0), 1);
        desk.write(0);
        CHECK.due("its A", Check.fetch(desk, 19), 'A');
    }

    private static void keepsThreeThousandBytes() {
        MappingDesk desk = new MappingDesk();
        for (int i = 0; i < 150; i++) {
            CHECK.due("feed " + i, desk.feed(0x41414141, 0x41414141, 0x41414141, 0x41414141, 0x41414141), true);
        }
        CHECK.due("feed when full", desk.feed(0, 0, 0, 0, 0), false);
        CHECK.due("end(3001)", desk.end(3001), false);
        CHECK.due("end(3000)", desk.end(3000), true);
        CHECK.due("end(2981)", desk.end(2981), true);
        CHECK.due("feed with 19 left", desk.feed(0, 0, 0, 0, 0), false);
        CHECK.due("end(2980)", desk.end(2980), true);
        CHECK.due("feed with 20 left", desk.feed(0x41414141, 0x41414141, 0x41414141, 0x41414141, 0x41414121), true);
        CHECK.due("read(0) sees the last byte", desk.read(0), -2 - 2999);
        CHECK.due("end(1) after read", desk.end(1), false);
    }

    private static void endsTheTape() {
        MappingDesk desk = new MappingDesk();
        desk.feed(0x41000000, 0, 0, 0, 0);
        CHECK.due("end(21)", desk.end(21), false);
        CHECK.due("end(-1)", desk.end(-1), false);
        CHECK.due("end(min)", desk.end(Integer.MIN_VALUE), false);
        CHECK.due("end(max)", desk.end(Integer.MAX_VALUE), false);
        CHECK.due("end(20)", desk.end(20), true);
        CHECK.due("end(1)", desk.end(1), true);
        CHECK.due("end(2) after end(1)", desk.end(2), false);
        CHECK.due("read(0)", desk.read(0), 1);
    }

    private static void feedsBehindTheEnd() {
        MappingDesk desk = new MappingDesk();
        desk.feed(0x41212121, 0x21212121, 0x21212121, 0x21212121, 0x21212121);
        desk.end(1);
        desk.feed(0x2C432121, 0, 0, 0, 0);
        CHECK.due("end(3)", desk.end(3), true);
        CHECK.due("read(0) of A,C", desk.read(0), 2);
        CHECK.due("written", Check.written(desk, 0), "A,C");
    }
}
