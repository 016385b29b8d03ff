import java.util.Arrays;
import java.util.Random;

/** All promises: random runs (from fixed seeds, within 512 calls), each answer held against the Model's. */
final class ModelTest {
    private static final int RUNS = 500, CALLS = 390;
    private static final String[] NAMES = {
        "row/3", "set/3", "copy/5", "drop/1", "fault/0", "steps/1", "change/1", "wind/1", "cough/1", "undo/0",
        "sleeper/2", "sheep/2", "off/1", "counted/2", "when/1", "all/1", "never/0", "quiet/1", "order/2", "fewest/3",
        "missing/3", "windy/3", "sorts/4", "stay/4", "image/1", "restore/1", "kind/1", "as/2", "ask/2", "trace/1",
        "count/1", "status/0", "feed/1", "square/0", "steps/1", "steps/1", "wind/1", "cough/1", "change/1", "undo/0"};
    /** Numbers at and beyond the document's edges. */
    private static final int[] WILD = {
        -1, -2, 8, 9, 10, 11, 15, 16, 17, 24, 25, 31, 32, 39, 40, 41, 63, 64, 99, 100, 128, 255, 256, 32768,
        Integer.MAX_VALUE, Integer.MIN_VALUE, Integer.MAX_VALUE - 1, Integer.MIN_VALUE + 1};
    private static final Due due = new Due("ModelTest");

    private final Random random;
    private final SheepSquare real = new SheepSquare();
    private final Model model = new Model();
    private final int run;
    private int calls = 0;

    private ModelTest(int run) {
        this.run = run;
        random = new Random(7919L * run + 1);
    }

    public static void main(String[] args) {
        for (int run = 0; run < RUNS; run++) new ModelTest(run).go();
        due.end();
    }

    private void go() {
        if (random.nextInt(8) != 0) feedText(false);
        while (calls < CALLS) {
            int what = random.nextInt(100);
            if (what == 0) feedText(random.nextBoolean());
            else if (what < 7) tellTrue();
            else anyCall();
        }
    }

    private void anyCall() {
        String[] parts = NAMES[random.nextInt(NAMES.length)].split("/");
        String name = parts[0];
        int[] a = new int[Integer.parseInt(parts[1])];
        for (int i = 0; i < a.length; i++) a[i] = number(name, i);
        if (name.equals("order") && random.nextInt(4) != 0) return;
        both(name, a);
    }

    /** Mostly numbers that are as told for the call, at times wild ones. */
    private int number(String name, int i) {
        int wild = random.nextInt(40);
        if (wild == 0) return WILD[random.nextInt(WILD.length)];
        if (wild == 1) return random.nextInt(45) - 2;
        switch (name + i) {
            case "row2": return random.nextInt(22);
            case "set1": case "missing1": case "windy1": case "sorts2": return random.nextInt(6);
            case "set2": return random.nextInt(3) == 0 ? random.nextInt() : random.nextInt(6);
            case "copy1": case "copy3": case "copy4": return random.nextInt(8);
            case "steps0": return 1 + random.nextInt(random.nextInt(8) == 0 ? 24 : 4);
            case "wind0": case "stay2": return random.nextInt(10);
            case "off0": case "counted1": case "fewest1": case "stay1": return random.nextInt(random.nextBoolean() ? 100 : 12);
            case "all0": case "order0": case "fewest0": return random.nextInt(random.nextBoolean() ? 32 : 8);
            case "order1": return random.nextInt(7) - 1;
            case "missing2": case "windy2": case "sorts3": return 1 + random.nextInt(8);
            case "missing0": case "windy0": case "sorts1": case "row0": case "set0": case "drop0": return random.nextInt(4);
            case "copy0": case "copy2": return random.nextInt(4);
            case "row1": return random.nextInt(3);
            case "count0": case "trace0": return random.nextInt(8);
            case "fewest2": case "image0": case "restore0": case "ask1": case "stay3": return random.nextInt(2);
            case "feed0": return random.nextInt(256);
            default: return random.nextInt(6);
        }
    }

    /** Sets a row to what would go so under a change of one thing, so that rows tell something. */
    private void tellTrue() {
        int n = 1 + random.nextInt(10);
        both("row", 0, random.nextInt(3), n);
        both("image", 1);
        if (random.nextInt(3) == 0) both("wind", random.nextInt(10));
        int[] told = new int[n];
        for (int i = 0; i < n; i++) {
            both("steps", 1);
            told[i] = both("count", 5);
        }
        both("restore", 1);
        for (int i = 0; i < n; i++) both("set", 0, i, told[i]);
        both("windy", 0, 0, n);
        both("missing", 0, 0, n);
        for (int s = 0; s < 5; s++) both("sorts", s, 0, 0, n);
    }

    private void feedText(boolean spoiled) {
        StringBuilder text = new StringBuilder("q").append(random.nextInt(7)).append(';');
        int sheep = 1 + random.nextInt(random.nextInt(12) == 0 ? 7 : 6);
        for (int i = 0; i < sheep; i++) {
            text.append('f').append(random.nextInt(10)).append(',').append(random.nextInt(random.nextBoolean() ? 4 : 2)).append(';');
        }
        int sleepers = random.nextInt(random.nextInt(12) == 0 ? 7 : 6);
        for (int i = 0; i < sleepers; i++) {
            int needs = 1 + random.nextInt(random.nextInt(6) == 0 ? 60 : 8);
            text.append("pdtnl".charAt(random.nextInt(5))).append(needs).append(',').append(random.nextInt(2)).append(';');
        }
        if (spoiled) spoil(text);
        both("square");
        for (int i = 0; i < text.length(); i++) both("feed", text.charAt(i));
        both("square");
        both("fault");
    }

    private void spoil(StringBuilder text) {
        int at = random.nextInt(text.length());
        String other = "0123456789,;qfpdtnlxz \u00ff";
        char c = other.charAt(random.nextInt(other.length()));
        switch (random.nextInt(4)) {
            case 0: text.setCharAt(at, c); break;
            case 1: text.insert(at, c); break;
            case 2: text.deleteCharAt(at); break;
            default: text.setLength(at);
        }
    }

    private int both(String name, int... a) {
        calls++;
        int want = model.call(name, a);
        due.is("run " + run + ", call " + calls + ", " + name + Arrays.toString(a), Town.call(real, name, a), want);
        return want;
    }
}
