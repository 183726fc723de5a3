import java.util.ArrayDeque;
import java.util.ArrayList;
import java.util.Deque;
import java.util.List;
import java.util.Random;
import java.util.Set;

/** Long mixed runs, the same ones each time, whose answers are compared with the plain model's. */
public final class ModelTest {
    private static final int RUNS = 2000;
    private static final int CALLS_OF_A_RUN = 512;
    private static final int CALLS_BEYOND = 60000;
    private static final String[] NAMES = {
        "object", "put", "get", "save", "restore", "state", "stateOf", "push", "pop",
        "bytes", "used", "old", "deepest"};
    private static final Set<String> NAMED_EXCEPTIONS = Set.of("throws.UnsupportedOperationException",
        "throws.NoSuchElementException", "throws.IndexOutOfBoundsException", "throws.IllegalStateException");

    private final Random random;
    private final int[] weights = new int[NAMES.length];
    private final int wrongPercent;
    private final Deque<String> living = new ArrayDeque<>();
    private int objectsMade = 0;
    private int savesMade = 0;

    private ModelTest(long seed) {
        random = new Random(seed);
        for (int k = 0; k < weights.length; k++) {
            weights[k] = 1 + random.nextInt(random.nextBoolean() ? 3 : 12);
        }
        wrongPercent = random.nextInt(8);
    }

    public static void main(String[] args) {
        Check check = new Check();
        for (int seed = 1; seed <= RUNS; seed++) {
            new ModelTest(seed).compare(check, "run " + seed);
        }
        new ModelTest(0).goBeyond(check);
        check.end();
    }

    /** Stops at the first difference: what comes behind it says nothing. */
    private void compare(Check check, String name) {
        SaveRestore machine = new SaveRestore();
        PlainModel model = new PlainModel();
        List<String> calls = new ArrayList<>();
        for (int k = 0; k < CALLS_OF_A_RUN; k++) {
            String call = nextCall();
            calls.add(call);
            String got = Calls.answer(machine, call);
            String want = Calls.answer(model, call);
            check.due(name + ", call " + k + ": " + call, got, want);
            if (!got.equals(want)) {
                System.out.println("  behind " + calls);
                return;
            }
            count(call, got);
        }
    }

    /** Behind the 512th call the answers are free, but no exception that the document does not name may come. */
    private void goBeyond(Check check) {
        SaveRestore machine = new SaveRestore();
        for (int k = 0; k < CALLS_BEYOND; k++) {
            String call = nextCall();
            String got = Calls.answer(machine, call);
            check.due("beyond, call " + k + ": " + call + " answered " + got,
                !got.startsWith("throws.") || NAMED_EXCEPTIONS.contains(got), true);
            count(call, got);
        }
    }

    private void count(String call, String answer) {
        if (answer.startsWith("throws.")) {
            return;
        }
        if (call.startsWith("object(")) {
            objectsMade++;
        } else if (call.startsWith("save(")) {
            savesMade++;
            living.push(answer);
        } else if (call.startsWith("restore(") && answer.equals("1")) {
            living.pop();
        }
    }

    private String nextCall() {
        String name = nextName();
        return name + "(" + switch (name) {
            case "object" -> random.nextInt(3) == 0;
            case "put" -> object() + ", " + index(8) + ", " + value();
            case "get" -> object() + ", " + index(8);
            case "restore" -> saveNumber();
            case "state" -> index(10) + ", " + value();
            case "stateOf" -> index(10);
            case "bytes" -> object() + ", " + index(8) + ", " + (index(257) - 1);
            case "old" -> object();
            default -> "";
        } + ")";
    }

    private String nextName() {
        int all = 0;
        for (int weight : weights) {
            all += weight;
        }
        int left = random.nextInt(all);
        int k = 0;
        while (left >= weights[k]) {
            left -= weights[k];
            k++;
        }
        return NAMES[k];
    }

    private boolean wrongOne() {
        return random.nextInt(100) < wrongPercent;
    }

    private int extreme() {
        int[] extremes = {-1, -2, Integer.MIN_VALUE, Integer.MAX_VALUE, Integer.MIN_VALUE + 1, 1 << 30};
        return extremes[random.nextInt(extremes.length)];
    }

    private int index(int count) {
        if (wrongOne()) {
            return random.nextBoolean() ? count : extreme();
        }
        // Low ones come more often, so that the same cell is met again.
        return random.nextBoolean() ? random.nextInt(count) : random.nextInt(2);
    }

    private int object() {
        if (wrongOne()) {
            return random.nextBoolean() ? objectsMade : extreme();
        }
        int recent = Math.min(objectsMade, 6);
        return random.nextBoolean() ? random.nextInt(objectsMade + 1)
            : objectsMade - random.nextInt(recent + 1);
    }

    private int value() {
        if (wrongOne()) {
            return extreme();
        }
        return random.nextBoolean() ? random.nextInt(9) : -1 - object();
    }

    /** Mostly the latest that lives, since no other one can be restored. */
    private int saveNumber() {
        if (wrongOne()) {
            return random.nextBoolean() ? 0 : extreme();
        }
        boolean latest = !living.isEmpty() && random.nextInt(4) != 0;
        return latest ? Integer.parseInt(living.peek()) : Math.max(0, savesMade + 1 - random.nextInt(10));
    }
}
