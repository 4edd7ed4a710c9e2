/** Long runs of calls, the same each time, on a desk and on the model beside it. */
public final class ModelTest {
    private static final Check CHECK = new Check("ModelTest");
    private static final int RUNS = 3000;
    private static final int CALLS_OF_RUN = 512;
    private static final int[] LIMITS = {Integer.MIN_VALUE, -1, 0, 1, 2, 5, 99, 100, 199, 200, 999999, 1000000,
        Integer.MAX_VALUE};

    private final MappingDesk desk = new MappingDesk();
    private final Model model = new Model();
    private final int[] faults;
    private long seed;
    private int calls;

    private ModelTest(long seed, int[] faults) {
        this.seed = seed * 7919 + 17;
        this.faults = faults;
    }

    public static void main(String[] args) {
        int[] faults = new int[6];
        for (int run = 1; run <= RUNS; run++) {
            new ModelTest(run, faults).run();
        }
        for (int fault = 0; fault <= 5; fault++) {
            CHECK.due("the runs come upon fault " + fault, faults[fault] > 20, true);
        }
        CHECK.finish();
    }

    private int below(int bound) {
        seed = seed * 6364136223846793005L + 1442695040888963407L;
        return (int) ((seed >>> 33) % bound);
    }

    private boolean oneIn(int many) {
        return below(many) == 0;
    }

    private void run() {
        // A step makes no more calls than the longest text takes: 150 feeds and four others.
        while (calls < CALLS_OF_RUN - 160) {
            switch (below(10)) {
                case 0, 1 -> readText();
                case 2, 3, 4 -> put();
                case 5 -> write();
                case 6, 7 -> ask();
                case 8 -> due("compose()", desk.compose(), model.compose());
                default -> rare();
            }
        }
        due("size(0)", desk.size(0), model.size(0));
        due("size(1)", desk.size(1), model.size(1));
    }

    private void due(String call, long got, long want) {
        calls++;
        CHECK.due(call, got, want);
    }

    private void due(String call, boolean got, boolean want) {
        due(call, got ? 1L : 0L, want ? 1L : 0L);
    }

    private int table() {
        return oneIn(30) ? LIMITS[below(LIMITS.length)] : below(2);
    }

    private int small(int bound) {
        return oneIn(40) ? LIMITS[below(LIMITS.length)] : below(bound);
    }

    private void rare() {
        int table = table();
        switch (below(6)) {
            case 0 -> due("clear(" + table + ")", desk.clear(table), model.clear(table));
            case 1 -> due("size", desk.size(table), model.size(table));
            case 2 -> due("fault", desk.fault(), model.fault);
            case 3 -> {
                int n = LIMITS[below(LIMITS.length)];
                due("end(" + n + ")", desk.end(n), model.end(n));
            }
            default -> feed(";A,C", below(1 << 30));
        }
    }

    private void feed(String four, int number) {
        int first = four.charAt(0) << 24 | four.charAt(1) << 16 | four.charAt(2) << 8 | four.charAt(3);
        due("feed", desk.feed(first, number, -number, first, number), model.feed(first, number, -number, first, number));
    }

    private void put() {
        int table = table();
        int line = small(4);
        int column = small(8);
        int source = oneIn(5) ? -1 : small(100);
        int sourceLine = small(4);
        int sourceColumn = small(8);
        int name = oneIn(3) ? -1 : small(100);
        due("put(" + table + ", " + line + ", " + column + ", ..)",
                desk.put(table, line, column, source, sourceLine, sourceColumn, name),
                model.put(table, line, column, source, sourceLine, sourceColumn, name));
    }

    private void write() {
        int table = table();
        due("write(" + table + ")", desk.write(table), model.write(table));
        for (int k = 0; k < 20; k++) {
            int i = oneIn(20) ? LIMITS[below(LIMITS.length)] : below(model.text.length() + 1);
            boolean none = i < 0 || i >= model.text.length();
            due("textAt(" + i + ")", Check.fetch(desk, i), none ? Check.THROWS : model.text.charAt(i));
        }
    }

    private void ask() {
        int table = table();
        int line = small(4);
        int column = small(10);
        int what = oneIn(20) ? LIMITS[below(LIMITS.length)] : below(5);
        due("ask(" + table + ", " + line + ", " + column + ", " + what + ")", desk.ask(table, line, column, what),
                model.ask(table, line, column, what));
    }

    private void readText() {
        String text = oneIn(20) ? crowdedText() : shortText();
        for (int changes = oneIn(2) ? 0 : below(3); changes > 0; changes--) {
            text = changed(text);
        }
        due("end(0)", desk.end(0), model.end(0));
        for (int i = 0; i < text.length(); i += 20) {
            int[] n = new int[5];
            for (int k = 0; k < 20; k++) {
                n[k / 4] = n[k / 4] << 8 | (i + k < text.length() ? text.charAt(i + k) : 0);
            }
            due("feed", desk.feed(n[0], n[1], n[2], n[3], n[4]), model.feed(n));
        }
        due("end", desk.end(text.length()), model.end(text.length()));
        int table = table();
        due("read(" + table + ") of " + text, desk.read(table), model.read(table));
        due("fault() of " + text, desk.fault(), model.fault);
        faults[model.fault]++;
    }

    private String shortText() {
        StringBuilder text = new StringBuilder();
        int[] latest = new int[5];
        int[] bounds = {3, oneIn(9) ? 100 : 5, oneIn(9) ? 1000000 : 4, oneIn(9) ? 1000000 : 9, 100};
        for (int segments = below(12); segments > 0; segments--) {
            int numbers = oneIn(3) ? 1 : oneIn(2) ? 4 : 5;
            text.append(Model.numberText(below(bounds[0])));
            for (int i = 1; i < numbers; i++) {
                int next = below(bounds[i]);
                text.append(Model.numberText(next - latest[i]));
                latest[i] = next;
            }
            text.append(segments > 1 ? oneIn(3) ? ";" : "," : oneIn(4) ? ";" : "");
        }
        return text.toString();
    }

    private String crowdedText() {
        StringBuilder text = new StringBuilder();
        int lines = oneIn(2) ? 195 + below(8) : below(20);
        int segments = oneIn(2) ? 295 + below(8) : below(20);
        while (lines + segments > 0) {
            boolean isLine = below(lines + segments) < lines;
            boolean isFirst = text.length() == 0 || text.charAt(text.length() - 1) == ';';
            text.append(isLine ? ";" : isFirst ? "A" : ",A");
            lines -= isLine ? 1 : 0;
            segments -= isLine ? 0 : 1;
        }
        return text.toString();
    }

    private String changed(String text) {
        String pool = ",,;;ABCDEDgggg/+Z!\u00ff" + Model.DIGITS;
        int at = below(text.length() + 1);
        String with = switch (below(6)) {
            case 0 -> "g".repeat(below(9)) + pool.charAt(below(pool.length()));
            case 1 -> Model.numberText((oneIn(2) ? -1 : 1) * (2147483645L + below(6)));
            case 2 -> "";
            default -> String.valueOf(pool.charAt(below(pool.length())));
        };
        int after = Math.min(text.length(), at + below(2));
        return text.substring(0, at) + with + text.substring(after);
    }
}
