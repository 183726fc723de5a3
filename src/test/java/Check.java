import java.util.ArrayList;
import java.util.List;

/** Counts what was looked at and prints what was not as due. */
final class Check {
    private static final int MOST_CALLS = 512;

    private int looked = 0;
    private int wrong = 0;

    void due(String what, Object got, Object want) {
        looked++;
        if (!want.equals(got)) {
            wrong++;
            System.out.println(what + ": got " + got + ", due is " + want);
        }
    }

    /** A run on a new object: each line is a call and behind "=" its answer. Answers the object. */
    SaveRestore run(String name, String lines) {
        SaveRestore machine = new SaveRestore();
        go(name, machine, lines);
        return machine;
    }

    /** Answers how many calls these were. */
    int go(String name, SaveRestore machine, String lines) {
        int calls = 0;
        for (String line : lines.split("\n")) {
            if (line.isBlank()) {
                continue;
            }
            String[] sides = line.split("=");
            String call = sides[0].trim();
            due(name + ": " + call, Calls.answer(machine, call), sides[1].trim());
            calls++;
        }
        withinCalls(name, calls);
        return calls;
    }

    /**
     * The idle calls answer as written and change nothing: behind them an object answers all that can
     * be asked as its twin does, on which they were not made.
     */
    void idle(String name, String before, String idleCalls) {
        SaveRestore twin = run(name, before);
        SaveRestore machine = new SaveRestore();
        int calls = go(name, machine, before) + go(name, machine, idleCalls);
        List<String> aftermath = aftermath();
        for (String call : aftermath) {
            due(name + ": then " + call, Calls.answer(machine, call), Calls.answer(twin, call));
        }
        withinCalls(name, calls + aftermath.size());
    }

    /** Each of the calls, made on an object of its own, throws the exception and changes nothing. */
    void refused(String name, String before, String exception, String... calls) {
        for (String call : calls) {
            idle(name + ": " + call, before, call + " = throws." + exception);
        }
    }

    /** Behind the 512th call of an object nothing is promised, so no test may look there. */
    private void withinCalls(String name, int calls) {
        due(name + ": at most 512 calls, these " + calls, calls <= MOST_CALLS, true);
    }

    /**
     * Looks; puts, so that a row that came or went shows; goes back through what is pushed and all the
     * saves; and makes new ones of each kind, whose numbers show whether one was given away.
     */
    private static List<String> aftermath() {
        List<String> calls = new ArrayList<>(Calls.look(4));
        for (int i = 0; i < 8; i++) {
            calls.addAll(List.of("put(0, " + i + ", 99)", "put(1, " + i + ", 99)", "put(2, " + i + ", 99)"));
        }
        calls.addAll(List.of("state(8, 0)", "state(9, 0)"));
        for (int save = 17; save >= 1; save--) {
            calls.addAll(List.of("used()", "pop()", "stateOf(0)", "restore(" + save + ")"));
            calls.addAll(List.of("stateOf(0)", "get(0, 0)", "get(2, 3)"));
        }
        calls.addAll(Calls.look(3));
        calls.addAll(List.of("pop()", "stateOf(0)", "object(false)", "object(true)"));
        calls.addAll(List.of("push()", "save()", "push()", "used()"));
        return calls;
    }

    void end() {
        System.out.println(looked + " answers looked at, " + wrong + " not as due");
        if (wrong != 0 || looked == 0) {
            System.exit(1);
        }
    }
}
