import java.util.Arrays;
import java.util.Map;
import java.util.Random;
import java.util.TreeMap;

/**
 * Runs of 512 calls, the same on a FerroDesk and on the Model, which must answer alike. The runs
 * are drawn from fixed seeds; each mood of a run leads to other corners of the document.
 */
public final class ModelTest {
    private static final int RUNS = 2500;
    private static final int CALLS = 512;
    private static final int DARK = 1;
    private static final int WEARING = 2;
    private static final int READING = 3;
    private static final int LATE = 4;
    private static final int MOODS = 5;

    /** Calls with a letter for each argument, each standing as often as its weight. */
    private static final String[] COMMON = {
        "go h", "go h", "go h", "go h", "post Rpft", "post Rpft", "queue nd", "queue nd",
        "queue nd", "pass bP", "pass bP", "takeBack nk", "mend np", "deny ude",
        "setSun s", "addBoard dC",
        "charge b", "cell bcr", "wear bcr", "shows b", "shift b", "sleeps b",
        "queued d", "queuedAt di", "isDue n", "readers nd", "readIn ny",
        "suspects ud", "suspectAt udi", "hour", "boards", "notices", "cellAnew bcr",
        "changes", "worst b", "checksum", "shownShare", "meanWear", "isSound",
    };
    private static final String[] OF_WEARING = {
        "go h", "go h", "go h", "go h", "go h", "go h", "shows b", "shift b", "sleeps b",
        "checksum", "checksum", "charge b", "worst b", "isSound",
    };
    private static final String[] OF_READING = {
        "pass bP", "pass bP", "pass bP", "go h", "mend np", "mend np", "suspects ud",
        "suspectAt udi", "suspectAt udi", "readers nd", "readIn ny", "queuedAt di",
    };

    private final Random random;
    private final int mood;
    private final FerroDesk desk = new FerroDesk();
    private final Model model = new Model();
    private final Map<String, Integer> pictures = new TreeMap<>();
    private final StringBuilder told = new StringBuilder();
    private int lastFrom = 0;
    private int calls = 0;

    private static final Map<String, Integer> REACHED = new TreeMap<>();

    private ModelTest(int seed) {
        random = new Random(seed);
        mood = seed % MOODS;
    }

    public static void main(String[] args) {
        for (int seed = 0; seed < RUNS; seed++) {
            new ModelTest(seed).run(seed);
        }
        checkReached();
        Check.finish("ModelTest");
    }

    private void run(int seed) {
        boolean alike = call("addBoard", draw("dC"));
        if (mood == WEARING) {
            alike &= planToWearOut();
        }
        if (mood == LATE) {
            alike &= goFar();
        }
        while (alike && calls < CALLS) {
            String[] row = nextRow().split(" ");
            alike = call(row[0], draw(row.length > 1 ? row[1] : ""));
            if (row[0].equals("post") && chance(2)) {
                alike &= call("queue", model.notices() - 1, random.nextInt(2));
            }
        }
        if (!alike) {
            System.out.println("run of seed " + seed + ":" + told);
        }
    }

    /** Dark notices of an hour each, with white hours between: each costs a cell two changes. */
    private boolean planToWearOut() {
        boolean alike = call("addBoard", 0, 200) & call("setSun", 20);
        int plans = between(28, 38);
        for (int i = 0; i < plans; i++) {
            int from = 1 + 4 * i;
            int dark = chance(2) ? -1 : random.nextInt() | random.nextInt() | random.nextInt();
            alike &= call("post", between(0, 9), dark, from, from + between(1, 3));
            alike &= call("queue", i, 0);
        }
        return alike;
    }

    private boolean goFar() {
        boolean alike = true;
        for (int i = between(0, 3); i < 41; i++) {
            alike &= call("go", 48);
        }
        return alike;
    }

    private String nextRow() {
        if (mood == WEARING && chance(2)) {
            return OF_WEARING[random.nextInt(OF_WEARING.length)];
        }
        if (mood == READING && chance(2)) {
            return OF_READING[random.nextInt(OF_READING.length)];
        }
        return COMMON[random.nextInt(COMMON.length)];
    }

    private boolean call(String name, Object... values) {
        calls++;
        Object want = Check.ask(model, name, values);
        Object got = Check.ask(desk, name, values);
        String what = name + Arrays.toString(values);
        told.append("\n  ").append(what).append(" -> ").append(want);
        Check.same(what, got, want);
        REACHED.merge(name + (want instanceof String ? " throws " + want : " answers"), 1,
                Integer::sum);
        if (want.equals(true)) {
            REACHED.merge(name + " is true", 1, Integer::sum);
        }
        if (name.equals("worst") && want.equals(60)) {
            REACHED.merge("worst is 60", 1, Integer::sum);
        }
        remember(name, values, want);
        return got.equals(want);
    }

    private void remember(String name, Object[] values, Object want) {
        if (want instanceof String) {
            return;
        }
        if (name.equals("post") || name.equals("mend")) {
            pictures.put("" + want, (Integer) values[1]);
        }
        if (name.equals("deny")) {
            pictures.put("" + want, ~(Integer) values[0]);
        }
    }

    private Object[] draw(String letters) {
        Object[] values = new Object[letters.length()];
        for (int i = 0; i < values.length; i++) {
            values[i] = value(letters.charAt(i));
        }
        return values;
    }

    private boolean chance(int oneIn) {
        return random.nextInt(oneIn) == 0;
    }

    private int between(int low, int high) {
        return low + random.nextInt(high - low + 1);
    }

    /** Mostly a number within, now and then one of those just outside or far off. */
    private int mostly(int low, int high) {
        if (chance(25)) {
            int[] odd = {low - 1, high + 1, low, high, Integer.MIN_VALUE, Integer.MAX_VALUE};
            return odd[random.nextInt(odd.length)];
        }
        return between(low, Math.max(low, high));
    }

    private int value(char letter) {
        int hour = model.hour();
        switch (letter) {
            case 'b': return mostly(0, model.boards() - 1);
            case 'n': return mostly(chance(2) ? 0 : model.notices() - 3, model.notices() - 1);
            case 'd': return chance(3) ? mostly(0, 3) : mostly(0, 1);
            case 'c': return mostly(0, 7);
            case 'r': return mostly(0, 3);
            case 'i': return chance(3) ? mostly(0, 6) : mostly(0, 1);
            case 'R': return mood == WEARING && chance(2) ? 9 : mostly(0, 9);
            case 'C': return charge();
            case 's': return sun();
            case 'P': return chance(2) ? mostly(1, 3) : mostly(1, 999);
            case 'h': return hours();
            case 'f': return from(hour);
            case 't': return till();
            case 'k': return chance(8) ? mostly(hour, 2000) : between(hour, hour + 6);
            case 'e': return chance(8) ? mostly(hour + 1, 2000) : between(hour, hour + 6);
            case 'y': return chance(2) ? hour : mostly(hour - 9, hour);
            case 'u': return rumour();
            default: return picture();
        }
    }

    private int charge() {
        return mood == DARK ? mostly(0, 20) : mood == WEARING ? 200 : mostly(0, 200);
    }

    private int sun() {
        return mood == DARK ? mostly(0, 3) : mood == WEARING ? 20 : mostly(0, 20);
    }

    private int hours() {
        if (mood == WEARING) {
            return chance(60) ? mostly(1, 48) : between(1, 3);
        }
        return chance(30) ? mostly(1, 48) : between(1, 3);
    }

    private int from(int hour) {
        lastFrom = chance(20) ? mostly(0, 1999) : Math.max(0, between(hour - 2, hour + 5));
        return lastFrom;
    }

    private int till() {
        if (chance(12)) {
            return mostly(0, 2000);
        }
        int longest = chance(3) ? 6 : chance(2) ? 40 : 200;
        return lastFrom < 3000 ? lastFrom + between(chance(9) ? 0 : 1, longest) : 2000;
    }

    private int picture() {
        if (mood == WEARING && chance(2)) {
            return -1;
        }
        switch (random.nextInt(7)) {
            case 0: return random.nextInt();
            case 1: return random.nextInt() | random.nextInt() | random.nextInt();
            case 2: return random.nextInt() & random.nextInt() & random.nextInt();
            case 3: return 1 << random.nextInt(32);
            case 4: return known();
            case 5: return chance(4) ? 0 : between(1, 255) << 8 * random.nextInt(4);
            default: return between(1, 15);
        }
    }

    private int known() {
        return pictures.getOrDefault("" + random.nextInt(1 + pictures.size()), 7);
    }

    private int rumour() {
        if (chance(12)) {
            return chance(2) ? 0 : -1;
        }
        if (chance(4)) {
            return picture();
        }
        int shift = random.nextInt(8);
        int picture = known();
        int out = 0;
        for (int bit = 0; bit < 32; bit++) {
            if ((picture >>> bit & 1) == 1 && chance(2)) {
                out |= 1 << (bit & 24 | (bit + shift & 7));
            }
        }
        return out;
    }

    /** The runs are only worth what they reach: each exception, true answers, worn-out cells. */
    private static void checkReached() {
        String[] due = {
            "addBoard throws IllegalArgumentException", "addBoard throws IllegalStateException",
            "setSun throws IllegalArgumentException", "charge throws IndexOutOfBoundsException",
            "cell throws IndexOutOfBoundsException", "wear throws IndexOutOfBoundsException",
            "shows throws IndexOutOfBoundsException", "shift throws IndexOutOfBoundsException",
            "sleeps throws IndexOutOfBoundsException", "sleeps is true",
            "post throws IllegalArgumentException", "post throws IllegalStateException",
            "queue throws IndexOutOfBoundsException", "queue throws IllegalArgumentException",
            "queue throws UnsupportedOperationException", "queue is true",
            "takeBack throws IndexOutOfBoundsException",
            "takeBack throws IllegalArgumentException",
            "takeBack throws UnsupportedOperationException", "takeBack answers",
            "mend throws IndexOutOfBoundsException", "mend throws IllegalArgumentException",
            "mend throws UnsupportedOperationException", "mend throws IllegalStateException",
            "mend answers", "deny throws IllegalArgumentException",
            "deny throws IllegalStateException", "deny answers",
            "queued throws IllegalArgumentException", "queuedAt throws IllegalArgumentException",
            "queuedAt throws IndexOutOfBoundsException", "queuedAt answers",
            "isDue throws IndexOutOfBoundsException", "isDue is true",
            "pass throws IndexOutOfBoundsException", "pass throws IllegalArgumentException",
            "readers throws IndexOutOfBoundsException", "readers throws IllegalArgumentException",
            "readIn throws IndexOutOfBoundsException", "suspects throws IllegalArgumentException",
            "suspectAt throws IllegalArgumentException",
            "suspectAt throws IndexOutOfBoundsException", "suspectAt answers",
            "go throws IllegalArgumentException", "go throws IllegalStateException",
            "cellAnew throws IndexOutOfBoundsException", "worst throws IndexOutOfBoundsException",
            "worst is 60", "isSound is true",
        };
        for (String row : due) {
            Check.same("the runs reach: " + row, REACHED.getOrDefault(row, 0) > 0, true);
        }
        if (System.getenv("SHOW_REACHED") != null) {
            REACHED.forEach((row, times) -> System.out.println(times + "  " + row));
        }
    }
}
