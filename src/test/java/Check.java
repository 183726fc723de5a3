import java.util.ArrayList;
import java.util.List;

/** Counts what was looked at and prints what was not as due. */
final class Check {
    private int looked = 0;
    private int wrong = 0;

    void due(String what, Object got, Object want) {
        looked++;
        if (!want.equals(got)) {
            wrong++;
            System.out.println(what + ": got " + got + ", due is " + want);
        }
    }

    /** A run on a new object: each line is a call and behind "=" its answer. Answers the object. */
    SaveRestore run(String name, String lines) {
        SaveRestore machine = new SaveRestore();
        go(name, machine, lines);
        return machine;
    }

    void go(String name, SaveRestore machine, String lines) {
        for (String line : lines.split("\n")) {
            if (line.isBlank()) {
                continue;
            }
            String[] sides = line.split("=");
            String call = sides[0].trim();
            due(name + ": " + call, Calls.answer(machine, call), sides[1].trim());
        }
    }

    /**
     * The idle calls answer as written and change nothing: behind them an object answers all that can
     * be asked as its twin does, on which they were not made.
     */
    void idle(String name, String before, String idleCalls) {
        SaveRestore machine = run(name, before);
        SaveRestore twin = run(name, before);
        go(name, machine, idleCalls);
        for (String call : aftermath()) {
            due(name + ": then " + call, Calls.answer(machine, call), Calls.answer(twin, call));
        }
    }

    /** Looks, then goes back through the pushed states and the saves 3, 2 and 1, and makes new ones. */
    private static List<String> aftermath() {
        List<String> calls = new ArrayList<>(Calls.look(4));
        for (int save = 3; save >= 1; save--) {
            calls.addAll(List.of("pop()", "stateOf(0)", "pop()", "stateOf(0)"));
            calls.addAll(List.of("state(8, 0)", "state(9, 0)", "restore(" + save + ")"));
            calls.addAll(Calls.look(3));
        }
        calls.addAll(List.of("object(false)", "object(true)", "push()", "save()", "push()", "used()"));
        return calls;
    }

    void end() {
        System.out.println(looked + " answers looked at, " + wrong + " not as due");
        if (wrong != 0 || looked == 0) {
            System.exit(1);
        }
    }
}
