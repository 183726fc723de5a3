/** "An object is used for at most 512 calls": each run here has 512, and the last is still as due. */
public final class BoundTest {
    private static final int MOST_CALLS = 512;

    private final Check check = new Check();

    private BoundTest() {
    }

    public static void main(String[] args) {
        BoundTest tests = new BoundTest();
        tests.numbersOfObjects();
        tests.numbersOfSaves();
        tests.rowsOfOneSave();
        tests.rowsOfManySaves();
        tests.pushedStates();
        tests.refusedCalls();
        tests.check.end();
    }

    private void full(String name, String lines) {
        check.due(name + ": calls", countOf(lines), MOST_CALLS);
        check.run(name, lines);
    }

    /** Between the first and the last lines the filling stands as often as 512 calls leave room for. */
    private void filled(String name, String first, String filling, String last) {
        int left = MOST_CALLS - countOf(first) - countOf(last);
        full(name, first + filling.repeat(left / countOf(filling)) + last);
    }

    private static int countOf(String lines) {
        return (int) lines.lines().filter(line -> !line.isBlank()).count();
    }

    private void numbersOfObjects() {
        full("the number of the last object that 512 calls can make",
            "save() = 1\n" + Lines.each(0, 199, "object(false) = #") + "restore(1) = 1\n"
            + "save() = 2\n" + Lines.each(200, 399, "object(false) = #") + "restore(2) = 1\n"
            + Lines.each(400, 507, "object(true) = #"));
        full("one object after the other that goes",
            Lines.each(1, 128, "save() = #\n object(false) = @\n put(@, 7, #) = 0\n restore(#) = 1"));
    }

    private void numbersOfSaves() {
        full("the number of the last save that 512 calls can make and restore",
            Lines.each(1, 256, "save() = #\n restore(#) = 1"));
        filled("a save that was restored 510 calls ago", "save() = 1\n restore(1) = 1\n", "deepest() = 1\n",
            "restore(1) = -2\n");
        filled("a save behind which one cell was put until the end",
            "object(false) = 0\n put(0, 0, 5) = 0\n save() = 1\n", "put(0, 0, 6) = 5\n put(0, 0, 5) = 6\n",
            "put(0, 0, 7) = 5\n used() = 21\n restore(1) = 1\n get(0, 0) = 5\n used() = 12\n");
    }

    private void rowsOfOneSave() {
        filled("the most rows of one save", Lines.each(0, 55, "object(false) = #") + "save() = 1\n"
            + Lines.each(0, 55, eachCell("put(#, CELL, 1) = 0")), "used() = 2022\n", "restore(1) = 1\n used() = 672\n");
    }

    private void rowsOfManySaves() {
        filled("each save has a row for each cell", "object(false) = 0\n object(true) = 1\n"
            + Lines.each(1, 16, "save() = #\n" + eachCell("put(0, CELL, #) = @")), "used() = 504\n",
            Lines.eachDown(16, 1, "restore(#) = 1\n" + eachCell("get(0, CELL) = @"))
            + "used() = 24\n deepest() = 16\n");
    }

    private void pushedStates() {
        filled("a state that was pushed 509 calls ago", "state(0, 1) = 0\n push() = 1\n state(0, 2) = 1\n",
            "push() = 2\n pop() = 1\n", "stateOf(0) = 2\n pop() = 0\n stateOf(0) = 1\n");
        filled("30 pushed states, and refused ones, that all come back",
            Lines.each(1, 30, "state(0, #) = @\n push() = #"),
            "push() = throws.UnsupportedOperationException\n", Lines.eachDown(30, 1, "pop() = @\n stateOf(0) = #"));
    }

    private void refusedCalls() {
        filled("a call that throws changes nothing, however often it is made",
            "object(true) = 0\n object(false) = 1\n put(0, 0, 3) = 0\n",
            "put(0, 0, -2) = throws.IllegalStateException\n",
            "get(0, 0) = 3\n used() = 24\n put(0, 0, -3) = throws.NoSuchElementException\n");
    }

    /** The line once for each cell. */
    private static String eachCell(String line) {
        StringBuilder lines = new StringBuilder();
        for (int cell = 0; cell < 8; cell++) {
            lines.append(line.replace("CELL", String.valueOf(cell))).append("\n");
        }
        return lines.toString();
    }
}
