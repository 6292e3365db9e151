import java.util.ArrayList;
import java.util.Arrays;
import java.util.List;
import java.util.TreeSet;

/**
 * Each call with the least and the greatest number that is taken, those just beyond and those far
 * off, all with all, in desks that stand at an edge themselves: nothing there yet, all places
 * taken, the last hours. The Model tells what is due; a refused call must change nothing, neither
 * what can be asked for at once nor what later calls answer.
 */
public final class EdgesTest {
    private static final int LEAST = Integer.MIN_VALUE;
    private static final int GREATEST = Integer.MAX_VALUE;

    /** Calls with a letter for each argument. */
    private static final String[] CHANGING = {
        "addBoard dC", "setSun s", "post Rpft", "queue nd", "takeBack nk", "mend np", "deny ude",
        "pass bP", "go h",
    };
    private static final String[] ASKING = {
        "charge b", "cell bcr", "wear bcr", "shows b", "shift b", "sleeps b", "queued d",
        "queuedAt di", "isDue n", "readers nd", "readIn ny", "suspects ud", "suspectAt udi",
        "hour", "boards", "notices", "cellAnew bcr", "changes", "worst b", "checksum",
        "shownShare", "meanWear", "isSound",
    };
    /** What a desk is asked to do behind refused calls, by a letter for each tail. */
    private static final String TAILS = "qtmpxg";

    private static final String IN_USE = "addBoard 0 60, addBoard 1 60, addBoard 0 3, "
            + "post 3 7 0 9, post 9 63 0 3, post 5 131 2 20, post 4 24 0 30, post 4 7 6 12, "
            + "post 2 -1 0 40, post 1 257 8 2000, queue 0 0, queue 0 1, queue 1 0, queue 2 1, "
            + "queue 3 0, queue 3 3, queue 4 2, queue 6 0, queue 6 1, go 1, pass 0 9, pass 1 4, "
            + "pass 2 1, mend 1 12, go 1, pass 0 2, takeBack 3 8, takeBack 4 5, deny 5 1 4, go 1, "
            + "pass 1 6, pass 0 3, mend 3 25, queue 9 0";

    private final String name;
    private final String[] script;
    private final List<Object[]> refused = new ArrayList<>();
    private FerroDesk desk;
    private Model model;

    private EdgesTest(String name, String script) {
        this.name = name;
        this.script = script.isEmpty() ? new String[0] : script.split(", ");
    }

    public static void main(String[] args) {
        new EdgesTest("nothing there yet", "").look();
        new EdgesTest("boards alone", "addBoard 0 200, addBoard 3 0, go 1").look();
        new EdgesTest("notices alone", "post 9 1 0 1, post 0 -1 0 2000, queue 1 3").look();
        new EdgesTest("in use", IN_USE).look();
        new EdgesTest("an hour later", IN_USE + ", go 1").look();
        new EdgesTest("without sun", IN_USE + ", setSun 0, go 6").look();
        new EdgesTest("a place left", places(5, 39)).look();
        new EdgesTest("all places taken", places(6, 40)).look();
        new EdgesTest("48 hours left", hour(1952)).look();
        new EdgesTest("47 hours left", hour(1953)).look();
        new EdgesTest("the last hour but one", hour(1999)).look();
        new EdgesTest("the last hour", hour(2000)).look();
        Check.finish("EdgesTest");
    }

    private static String places(int boards, int notices) {
        StringBuilder text = new StringBuilder("go 1");
        for (int board = 0; board < boards; board++) {
            text.append(", addBoard ").append(board % 4).append(' ').append(200 - 30 * board);
        }
        for (int number = 0; number < notices; number++) {
            text.append(", post ").append(number % 10).append(' ').append(1 + 37 * number)
                    .append(' ').append(number % 5).append(' ').append(2 + 3 * number);
            text.append(", queue ").append(number).append(' ').append(number % 3);
        }
        return text + ", takeBack 7 20, go 2, pass 0 5, pass 1 999";
    }

    private static String hour(int hour) {
        StringBuilder text = new StringBuilder("addBoard 2 100, post 3 7 0 2000, queue 0 2");
        for (int gone = 0; gone < hour; gone += 48) {
            text.append(", go ").append(Math.min(48, hour - gone));
        }
        return text + ", pass 0 8, post 4 56 1999 2000, queue 1 2, queue 1 1";
    }

    private void look() {
        replay();
        for (String row : ASKING) {
            String before = Check.stateOf(desk);
            tryAll(row, before, false);
            Check.same(name + ": " + row + " changes nothing", Check.stateOf(desk), before);
        }
        for (String row : CHANGING) {
            tryAll(row, Check.stateOf(desk), true);
        }
        for (int tail = 0; tail < TAILS.length(); tail++) {
            followRefusals(TAILS.charAt(tail));
        }
    }

    private void replay() {
        desk = new FerroDesk();
        model = new Model();
        for (String row : script) {
            Object[] values = numbersOf(row);
            String call = row.split(" ")[0];
            Object want = Check.ask(model, call, values);
            Check.same(name + ": on the way: " + row, Check.ask(desk, call, values), want);
            Check.same(name + ": is taken: " + row, want instanceof String, false);
        }
    }

    private static Object[] numbersOf(String row) {
        String[] words = row.split(" ");
        Object[] values = new Object[words.length - 1];
        for (int i = 0; i < values.length; i++) {
            values[i] = Integer.parseInt(words[i + 1]);
        }
        return values;
    }

    private void tryAll(String row, String before, boolean changes) {
        String[] words = row.split(" ");
        String letters = words.length > 1 ? words[1] : "";
        Object[][] edges = new Object[letters.length()][];
        int combinations = 1;
        for (int i = 0; i < edges.length; i++) {
            edges[i] = edgesOf(letters.charAt(i));
            combinations *= edges[i].length;
        }
        for (int chosen = 0; chosen < combinations; chosen++) {
            Object[] values = new Object[edges.length];
            int rest = chosen;
            for (int i = 0; i < edges.length; i++) {
                values[i] = edges[i][rest % edges[i].length];
                rest /= edges[i].length;
            }
            tryOne(words[0], values, before, changes);
        }
    }

    private void tryOne(String call, Object[] values, String before, boolean changes) {
        String what = name + ": " + call + Arrays.toString(values);
        Object want = Check.ask(model, call, values);
        Check.same(what, Check.ask(desk, call, values), want);
        if (want instanceof String) {
            refused.add(new Object[] {call, values});
        }
        if (want instanceof String && changes) {
            Check.same(what + " changes nothing", Check.stateOf(desk), before);
        } else if (changes) {
            Check.same(what + ", at once", Check.stateOf(desk), Check.stateOf(model));
            Check.same(what + ", go", Check.ask(desk, "go", 1), Check.ask(model, "go", 1));
            Check.same(what + ", an hour later", Check.stateOf(desk), Check.stateOf(model));
            replay();
        }
    }

    private Object[] edgesOf(char letter) {
        TreeSet<Object> edges = new TreeSet<>(Arrays.asList(LEAST, -1, 0, 1, GREATEST));
        int hour = model.hour();
        switch (letter) {
            case 'b': edges.addAll(around(model.boards() - 1, model.boards(), 5, 6)); break;
            case 'n': edges.addAll(around(2, 3, 4, 5, 6, 7, 8, 9, 10, 11, 38, 39, 40)); break;
            case 'd': edges.addAll(around(2, 3, 4)); break;
            case 'C': edges.addAll(around(199, 200, 201)); break;
            case 's': edges.addAll(around(19, 20, 21)); break;
            case 'c': edges.addAll(around(6, 7, 8)); break;
            case 'r': edges.addAll(around(2, 3, 4)); break;
            case 'R': edges.addAll(around(8, 9, 10)); break;
            case 'f': edges.addAll(around(hour, 1999, 2000, 2001)); break;
            case 't': edges.addAll(around(hour, hour + 1, hour + 2, 2000, 2001)); break;
            case 'k': edges.addAll(around(hour - 1, hour, hour + 1, hour + 2, 8, 9, 12, 13, 20,
                    21, 30, 31, 40, 41, 1999, 2000, 2001)); break;
            case 'e': edges.addAll(around(hour - 1, hour, hour + 1, hour + 2, 1999, 2000, 2001));
                break;
            case 'i': edges.addAll(around(2, 3, 4, 5, 6, 7, 12, 13, 14, 39, 40)); break;
            case 'P': edges.addAll(around(2, 998, 999, 1000)); break;
            case 'y': edges.addAll(around(hour - 2, hour - 1, hour, hour + 1, 1999, 2000, 2001));
                break;
            case 'h': edges.addAll(around(2, 46, 47, 48, 49)); break;
            case 'u': edges.addAll(around(5, 7, 0x81, 0x0100, -2, 0x80808080)); break;
            default: edges.addAll(around(7, 63, 131, 24, 12, 38, 75)); break;
        }
        return edges.toArray();
    }

    private static List<Object> around(Object... numbers) {
        return Arrays.asList(numbers);
    }

    /** A desk that refused all that it can refuse goes on just as one that was never asked. */
    private void followRefusals(char tail) {
        replay();
        FerroDesk unasked = desk;
        replay();
        for (Object[] row : refused) {
            Check.ask(desk, (String) row[0], (Object[]) row[1]);
        }
        for (String row : callsOf(tail)) {
            String call = row.split(" ")[0];
            Object[] values = numbersOf(row);
            Check.same(name + ": behind refused calls: " + row, Check.ask(desk, call, values),
                    Check.ask(unasked, call, values));
        }
        Check.same(name + ": behind refused calls, tail " + tail, Check.stateOf(desk),
                Check.stateOf(unasked));
    }

    private List<String> callsOf(char tail) {
        int hour = model.hour();
        List<String> calls = new ArrayList<>();
        for (int notice = 0; notice < model.notices(); notice++) {
            switch (tail) {
                case 'q':
                    for (int district = 0; district < 4; district++) {
                        calls.add("queue " + notice + " " + district);
                    }
                    break;
                case 't': calls.add("takeBack " + notice + " " + (hour + 1)); break;
                case 'm': calls.add("mend " + notice + " 99"); break;
                default: break;
            }
        }
        if (tail == 'p') {
            for (int board = 0; board < model.boards(); board++) {
                calls.add("pass " + board + " 3");
            }
        }
        if (tail == 'x') {
            calls.addAll(Arrays.asList("addBoard 2 50", "post 6 5 0 1999", "deny 3 2 1999",
                    "queue 0 2", "setSun 1", "setSun 20"));
        }
        calls.addAll(Arrays.asList("go 1", "checksum", "go 2", "checksum", "setSun 7"));
        return calls;
    }
}
