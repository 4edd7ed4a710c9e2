/** Promise 5, and what promise 4 answers for a fault. */
public final class FaultTest {
    private static final Check CHECK = new Check("FaultTest");

    public static void main(String[] args) {
        findsCharacters();
        findsNumbers();
        findsCounts();
        findsBounds();
        findsRoom();
        findsTheFirst();
        leavesNothingBehind();
        tellsTheLatest();
        findsNumbersThatEndWithin();
        findsNumbersAbove2147483647();
        findsNumbersThatWrapAround();
        seesALargeNumberAtItsLastCharacter();
        takesOneFourOrFiveNumbers();
        findsEmptySegments();
        findsAColumnLessThanTheOneAhead();
        findsFaultsInTheirOrder();
        tellsEachFault();
        CHECK.finish();
    }

    private static void fault(String text, int fault, int place) {
        MappingDesk desk = new MappingDesk();
        CHECK.due("read(1) of " + text, Check.read(desk, 1, text), -2 - place);
        CHECK.due("fault() of " + text, desk.fault(), fault);
        CHECK.due("size(1) then", desk.size(1), 0);
    }

    private static void good(String text, int segments) {
        MappingDesk desk = new MappingDesk();
        CHECK.due("read(1) of " + text, Check.read(desk, 1, text), segments);
        CHECK.due("fault() of " + text, desk.fault(), 0);
        CHECK.due("size(1) then", desk.size(1), segments);
    }

    private static void findsCharacters() {
        String allowed = "ABCDEFGHIJKLMNOPQRSTUVWXYZabcdefghijklmnopqrstuvwxyz0123456789+/,;";
        for (int character = 0; character < 256; character++) {
            if (allowed.indexOf(character) < 0) {
                fault("A;" + (char) character, 1, 2);
            }
        }
        fault(" ", 1, 0);
        fault("A,A\n", 1, 3);
        fault("A;=,A", 1, 2);
    }

    private static void findsNumbers() {
        fault("g", 2, 1);
        fault("AAAAg", 2, 5);
        fault("g,A", 2, 1);
        fault("A;Agg;", 2, 5);
        good("gggggggA,A", 2);
        // +/////D and //////D are 2147483647 without and with the sign: large, but numbers.
        fault("+/////D", 4, 0);
        fault("//////D", 4, 0);
        fault("A+/////D", 3, 0);
        fault("+/////DgggA", 3, 0);
        fault("+/////jggA", 4, 0);
        fault("ggggggE", 2, 0);
        fault("hgggggE", 2, 0);
        fault("ggggggQ", 2, 0);
        fault("gggggggB", 2, 0);
        fault("A,ggggggE", 2, 2);
        fault("AAggggggE,!", 2, 2);
        fault("AAggggggggggggggggggggggggB,!", 2, 2);
        fault("hggggggggggE", 2, 0);
        fault("A;AAggggggkggggggA;", 2, 4);
    }

    private static void findsCounts() {
        fault("AA", 3, 0);
        fault("AAA", 3, 0);
        fault("A,AA;A", 3, 2);
        fault("AAAAAA", 3, 0);
        fault(";A,AAAAAAAAAAAA,A", 3, 3);
        good("A,AAAA,AAAAA", 3);
        fault(",", 3, 0);
        fault(",A", 3, 0);
        fault("A,", 3, 2);
        fault("A,,A", 3, 2);
        fault("A,;A", 3, 2);
        fault(";,A", 3, 1);
        fault("A;,", 3, 2);
    }

    private static void findsBounds() {
        fault("D", 4, 0);
        fault("C,D", 4, 2);
        fault("C;D", 4, 2);
        fault("gAAADA", 4, 0);
        fault("ADAA", 4, 0);
        fault("AADA", 4, 0);
        fault("AAAD", 4, 0);
        fault("AAAAD", 4, 0);
        good("AmGAA", 1);
        fault("AoGAA", 4, 0);
        good("AAAAmG", 1);
        fault("AAAAoG", 4, 0);
        good("AA+jh9BA", 1);
        fault("AAgkh9BA", 4, 0);
        good("AAA+jh9B", 1);
        fault("AAAgkh9B", 4, 0);
        good("+jh9B", 1);
        fault("gkh9B", 4, 0);
        fault("+jh9B,A,C", 4, 8);
        fault("+jh9BmG+jh9B+jh9BmG,A+/////D+/////D+/////D+/////D", 4, 20);
        fault("AmGAA,A,ACAA", 4, 8);
        fault("AmGAA;ACAA", 4, 6);
        fault("AAAAmG,AAAA,AAAAC", 4, 12);
        fault("AAAAC,AAAAF", 4, 6);
    }

    private static void findsRoom() {
        String most = "A" + ",A".repeat(299);
        good(most, 300);
        good(most + ";;", 300);
        fault(most + ",A", 5, 600);
        fault(most + ";A", 5, 600);
        fault(most + ";;AAAAA,!", 5, 601);
        fault(most + ",AA", 3, 600);
        fault(most + ",D", 4, 600);
        fault(most + ",", 3, 600);
        fault(most + ",g", 2, 601);
        fault(most + ",A!", 1, 601);
        String lines = ";".repeat(199);
        good(lines, 0);
        good(lines + "A,A", 2);
        fault(lines + ";", 5, 199);
        fault(lines + ";;", 5, 199);
        fault(lines + "A;A", 5, 200);
        fault(lines + "AA;", 3, 199);
        fault(lines + "A,;", 3, 201);
        fault(lines + "g;", 2, 200);
        fault(lines + "D;", 4, 199);
    }

    private static void findsTheFirst() {
        fault("AA!", 1, 2);
        fault("D!", 1, 1);
        fault("DA,!", 3, 0);
        fault("D,!", 4, 0);
        fault("g!", 1, 1);
        fault("ggggggggggg!", 1, 11);
        fault("ggggggggggC!", 2, 0);
        fault("DDg", 2, 3);
        fault("DD,g", 3, 0);
        fault("AAAAAAggggggggggC", 2, 6);
        fault("A,,!", 3, 2);
        fault("!,D", 1, 0);
    }

    // Whatever a read was at when it came upon a fault, the next one begins anew.
    private static void leavesNothingBehind() {
        String[] faulty = {"CCCCCg", "ggg!", "AA!", "gggggggggB", "A,", "A,!", ";;;!", "CCCCC,CCCCC,D", "C,AA", "ggggggE"};
        for (String text : faulty) {
            MappingDesk desk = new MappingDesk();
            CHECK.due("read(0) of " + text, Check.read(desk, 0, text) < -1, true);
            CHECK.due("read(0) of ;A behind " + text, Check.read(desk, 0, ";A"), 1);
            CHECK.due("read(0) of " + text, Check.read(desk, 0, text) < -1, true);
            CHECK.due("read(1) of CAAAC behind " + text, Check.read(desk, 1, "CAAAC"), 1);
            CHECK.due("written", Check.written(desk, 0), ";A");
            CHECK.due("written", Check.written(desk, 1), "CAAAC");
        }
    }

    private static void tellsTheLatest() {
        MappingDesk desk = new MappingDesk();
        CHECK.due("fault() at first", desk.fault(), 0);
        Check.read(desk, 0, "AA");
        CHECK.due("fault()", desk.fault(), 3);
        CHECK.due("fault() again", desk.fault(), 3);
        desk.put(0, 0, 0, -1, 0, 0, 0);
        desk.clear(0);
        desk.compose();
        desk.write(0);
        desk.feed(0, 0, 0, 0, 0);
        CHECK.due("fault() after other calls", desk.fault(), 3);
        desk.end(0);
        Check.read(desk, 1, "D");
        CHECK.due("fault() of the other table", desk.fault(), 4);
        Check.read(desk, 1, "A");
        CHECK.due("fault() of a good read", desk.fault(), 0);
        Check.read(desk, 1, "!");
        CHECK.due("fault()", desk.fault(), 1);
        Check.read(desk, 2, "!");
        CHECK.due("fault() of a read without a table", desk.fault(), 0);
    }

    // "2 a number that ends within (its end)": at a , or a ; or the text's end, from one character on
    private static void findsNumbersThatEndWithin() {
        for (int length : new int[] {1, 2, 6, 7, 8, 64, 65}) {
            String open = "/".repeat(length);
            for (String behind : new String[] {"", ",", ";", ",A", ";A", ",,", ";;", ",!"}) {
                fault(open + behind, 2, length);
                fault("AAAA" + open + behind, 2, 4 + length);
                fault("AAAAA" + open + behind, 2, 5 + length);
                fault("A,A;" + open + behind, 2, 4 + length);
            }
            good("g".repeat(length) + "A", 1);
        }
    }

    // "or whose size is above 2147483647 (its first ..)"
    private static void findsNumbersAbove2147483647() {
        String[] numbers = {"8/////D", "9/////D", "+/////D", "//////D", "+/////jA", "//////jgA"};
        String[] larger = {"ggggggE", "hgggggE", "igggggE", "jgggggE", "ggggggkA", "hgggggkgA", "+/////H", "//////H"};
        for (String number : numbers) {
            // No bound lets such a one in, but it is a number.
            fault(number, 4, 0);
            fault("A;A,A" + number + "AA", 4, 4);
            fault("A" + number, 3, 0);
        }
        for (String number : larger) {
            fault(number, 2, 0);
            fault("A;A,A" + number + "AA", 2, 5);
            fault("A;A,AAAAA" + number, 2, 9);
        }
    }

    // Bits that 32 or 64 bits have no room for, and that would come back at the low end, or be lost.
    private static void findsNumbersThatWrapAround() {
        for (int length = 8; length <= 80; length++) {
            for (char last : new char[] {'B', 'C', 'Q', 'f'}) {
                fault("g".repeat(length - 1) + last, 2, 0);
                fault("C" + "h".repeat(length - 1) + last, 2, 1);
            }
            good("g".repeat(length - 1) + "A", 1);
            good("i" + "g".repeat(length - 2) + "A", 1);
        }
        for (int length : new int[] {320, 321, 322, 640, 641, 2998, 2999, 3000}) {
            fault("g".repeat(length - 1) + "C", 2, 0);
            good("g".repeat(length - 1) + "A", 1);
        }
    }

    // "seen at its last character"
    private static void seesALargeNumberAtItsLastCharacter() {
        fault("////////", 2, 8);
        fault("////////!", 1, 8);
        fault("////////A", 2, 0);
        fault("////////A!", 2, 0);
        fault("////////,!", 2, 8);
        fault("C////////A!", 2, 1);
        fault("C////////A,!", 2, 1);
        fault("D,////////A", 4, 0);
        fault("DD,////////A", 3, 0);
        fault("D////////A", 2, 1);
    }

    // "a segment's one, four or five numbers", "3 a segment of none of these many numbers (its first)"
    private static void takesOneFourOrFiveNumbers() {
        for (int many = 1; many <= 20; many++) {
            String segment = "A".repeat(many);
            String longer = "gA".repeat(many);
            boolean isGood = many == 1 || many == 4 || many == 5;
            for (String behind : new String[] {"", ",A", ";", ";A"}) {
                int others = behind.length() == 2 ? 1 : 0;
                if (isGood) {
                    good(segment + behind, 1 + others);
                    good(longer + behind, 1 + others);
                    good("A,A;A," + segment + behind, 4 + others);
                } else {
                    fault(segment + behind, 3, 0);
                    fault(longer + behind, 3, 0);
                    fault("A,A;A," + segment + behind, 3, 6);
                }
            }
        }
        fault("A".repeat(3000), 3, 0);
        fault("A," + "A".repeat(2998), 3, 2);
    }

    // "an empty one between or beside , too: the place of what ends it"
    private static void findsEmptySegments() {
        fault(",", 3, 0);
        fault(",,", 3, 0);
        fault(",;", 3, 0);
        fault(",A", 3, 0);
        fault("A,", 3, 2);
        fault("A,,", 3, 2);
        fault("A,;", 3, 2);
        fault("A,;A", 3, 2);
        fault("A,,A", 3, 2);
        fault("AAAA,,A", 3, 5);
        fault(";,", 3, 1);
        fault(";,A", 3, 1);
        fault("A;,A", 3, 2);
        fault("A;A,", 3, 4);
        fault("A;A,;", 3, 4);
        fault("A,A,", 3, 4);
        // An empty line has no , beside it.
        good("A;;A", 2);
        good("A,A;;A,A", 4);
        good(";A,A;", 2);
    }

    // "or a column less than the one ahead (the segment's first)"
    private static void findsAColumnLessThanTheOneAhead() {
        good("K,A", 2);
        good("K,B", 2);
        good("K,C", 2);
        fault("K,D", 4, 2);
        fault("K,DAAA", 4, 2);
        fault("KAAAA,DAAAA", 4, 6);
        fault("K,A,D", 4, 4);
        fault("+jh9B,D", 4, 6);
        fault("+jh9B,/jh9B", 4, 6);
        fault("+jh9B,//////D", 4, 6);
        // On another line there is none ahead: 0 is the least.
        good("K;A", 2);
        good("K;B", 2);
        good("K;C", 2);
        fault("K;D", 4, 2);
        fault("K;;F", 4, 3);
    }

    // "characters and numbers one by one (1, 2), and behind a segment's last number 3, 4, 5"
    private static void findsFaultsInTheirOrder() {
        String full = "A" + ",A".repeat(299);
        String lines = ";".repeat(199);
        // Two faults each; the one that stands first is found first.
        fault("A!g", 1, 1);
        fault("A!,AA", 1, 1);
        fault("AA!", 1, 2);
        fault("D!", 1, 1);
        fault(full + ",A!", 1, 601);
        fault(lines + ";!", 5, 199);
        fault(lines + "!;", 1, 199);
        fault("AAg", 2, 3);
        fault("Dg", 2, 2);
        fault(full + ",Ag", 2, 602);
        fault(full + ",AggggggE", 2, 601);
        fault(lines + "g;", 2, 200);
        fault("DA,!", 3, 0);
        fault("DA;g", 3, 0);
        fault(full + ",DA", 3, 600);
        fault(full + ",,", 3, 600);
        fault(full + ",;", 3, 600);
        fault(lines + "AA;", 3, 199);
        fault(lines + ",;", 3, 199);
        fault("D,AA", 4, 0);
        fault(full + ",D", 4, 600);
        fault(full + ",AoGAA", 4, 600);
        fault(lines + "D;", 4, 199);
        fault(full + ",A,!", 5, 600);
        fault(full + ";A;g", 5, 600);
        fault(full + ",A,AA", 5, 600);
        fault(full + ",A,D", 5, 600);
        fault(full + lines + ";A", 5, 798);
        fault(lines + full + ",A;", 5, 799);
        fault(lines + full + ";", 5, 798);
    }

    // "The fault of the latest read; 0 for none."
    private static void tellsEachFault() {
        String[] texts = {"A", "!", "g", "AA", "D", ";".repeat(200)};
        for (int first = 0; first <= 5; first++) {
            for (int second = 0; second <= 5; second++) {
                MappingDesk desk = new MappingDesk();
                CHECK.due("fault() ahead of a read", desk.fault(), 0);
                Check.read(desk, 0, texts[first]);
                CHECK.due("fault() of the first", desk.fault(), first);
                Check.tape(desk, texts[second]);
                CHECK.due("fault() ahead of the second", desk.fault(), first);
                desk.read(1);
                CHECK.due("fault() of the second", desk.fault(), second);
            }
        }
    }
}
