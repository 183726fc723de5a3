/** For each promise of the document: ordinary inputs, the edges that it names, and wrong inputs. */
public final class PromisesTest {
    private final Check check = new Check();

    private PromisesTest() {
    }

    public static void main(String[] args) {
        PromisesTest tests = new PromisesTest();
        tests.promise1NewObject();
        tests.promise2Object();
        tests.promise3Put();
        tests.promise3Rows();
        tests.promise4Get();
        tests.promise5Save();
        tests.promise6Restore();
        tests.promise6Undoes();
        tests.promise6Refuses();
        tests.promise7State();
        tests.promise8StateOf();
        tests.promise9Push();
        tests.promise10Pop();
        tests.promise11Bytes();
        tests.promise12Used();
        tests.promise13Old();
        tests.promise14Deepest();
        tests.check.end();
    }

    private void promise1NewObject() {
        check.run("1 new", """
            used() = 0
            deepest() = 0
            get(0, 0) = throws.NoSuchElementException
            old(0) = throws.NoSuchElementException
            restore(1) = -1
            pop() = -1
            """ + Lines.each(0, 9, "stateOf(#) = 0"));
        SaveRestore other = check.run("1 other", "object(false) = 0\n save() = 1\n state(0, 3) = 0\n");
        check.run("1 apart from another", "object(true) = 0\n save() = 1\n stateOf(0) = 0\n deepest() = 1\n");
        check.go("1 other stays", other, "used() = 18\n stateOf(0) = 3\n");
    }

    private void promise2Object() {
        check.run("2 cells and bytes are 0", "object(false) = 0\n object(true) = 1\n"
            + Lines.each(0, 7, "get(0, #) = 0\n get(1, #) = 0\n bytes(0, #, -1) = 0\n bytes(1, #, -1) = 0"));
        check.run("2 at most 200", Lines.each(0, 199, "object(false) = #")
            + "object(false) = throws.UnsupportedOperationException\n"
            + "object(true) = throws.UnsupportedOperationException\n"
            + "used() = 2400\n get(199, 7) = 0\n get(200, 0) = throws.NoSuchElementException\n");
        check.run("2 those that are gone do not count, and their numbers are not given again",
            "save() = 1\n" + Lines.each(0, 99, "object(false) = #") + Lines.each(100, 199, "object(true) = #")
            + "object(true) = throws.UnsupportedOperationException\n restore(1) = 1\n used() = 1200\n"
            + Lines.each(200, 299, "object(false) = #") + "object(false) = throws.UnsupportedOperationException\n"
            + "get(99, 0) = throws.NoSuchElementException\n get(100, 0) = 0\n get(299, 0) = 0\n");
        check.run("2 a new one is not what the gone one was", """
            save() = 1
            object(false) = 0
            put(0, 0, 7) = 0
            bytes(0, 0, 7) = 0
            restore(1) = 1
            object(false) = 1
            get(1, 0) = 0
            bytes(1, 0, -1) = 0
            """);
        check.idle("2 idle", Lines.each(0, 99, "object(false) = #") + Lines.each(100, 199, "object(true) = #"),
            "object(true) = throws.UnsupportedOperationException\n"
            + "object(false) = throws.UnsupportedOperationException\n");
    }

    private void promise3Put() {
        check.run("3 values", """
            object(false) = 0
            object(true) = 1
            put(0, 0, 5) = 0
            put(0, 0, 0) = 5
            put(0, 7, %s) = 0
            put(0, 7, -1) = %s
            put(0, 7, -2) = -1
            put(0, 7, 1) = -2
            put(1, 0, -2) = 0
            put(1, 7, 3) = 0
            get(1, 0) = -2
            get(1, 7) = 3
            get(0, 6) = 0
            """.formatted(Lines.GREATEST, Lines.GREATEST));
        check.idle("3 refused", Lines.BUSY, """
            put(4, 0, 1) = throws.NoSuchElementException
            put(-1, 0, 1) = throws.NoSuchElementException
            put(%s, 0, 1) = throws.NoSuchElementException
            put(%s, 0, 1) = throws.NoSuchElementException
            put(0, 0, -5) = throws.NoSuchElementException
            put(0, 0, %s) = throws.NoSuchElementException
            put(0, 8, -5) = throws.NoSuchElementException
            put(1, 0, -5) = throws.NoSuchElementException
            put(4, 8, -1) = throws.NoSuchElementException
            put(0, 8, 1) = throws.IndexOutOfBoundsException
            put(0, -1, 1) = throws.IndexOutOfBoundsException
            put(0, %s, 1) = throws.IndexOutOfBoundsException
            put(0, %s, 1) = throws.IndexOutOfBoundsException
            put(1, 8, -1) = throws.IndexOutOfBoundsException
            put(1, -1, -1) = throws.IndexOutOfBoundsException
            put(1, 0, -1) = throws.IllegalStateException
            put(1, 7, -3) = throws.IllegalStateException
            """.formatted(Lines.LEAST, Lines.GREATEST, Lines.LEAST, Lines.LEAST, Lines.GREATEST));
        check.run("3 what is gone can't be referred to", """
            object(false) = 0
            object(true) = 1
            save() = 1
            object(false) = 2
            object(true) = 3
            restore(1) = 1
            put(2, 0, 1) = throws.NoSuchElementException
            put(0, 0, -3) = throws.NoSuchElementException
            put(1, 0, -3) = throws.NoSuchElementException
            put(0, 0, -4) = 0
            put(1, 0, -4) = 0
            put(3, 0, -4) = 0
            put(3, 0, -1) = throws.IllegalStateException
            """);
    }

    private void promise3Rows() {
        check.run("3 no row without a save", "object(false) = 0\n put(0, 0, 1) = 0\n used() = 12\n");
        check.run("3 rows", """
            object(false) = 0
            object(true) = 1
            save() = 1
            object(false) = 2
            used() = 42
            put(0, 0, 1) = 0
            used() = 45
            put(0, 0, 2) = 1
            put(0, 0, 0) = 2
            used() = 45
            put(0, 1, 0) = 0
            used() = 48
            put(1, 0, 1) = 0
            put(2, 0, 1) = 0
            bytes(0, 0, 1) = 0
            get(0, 5) = 0
            used() = 48
            save() = 2
            put(0, 0, 3) = 0
            put(2, 0, 3) = 1
            used() = 60
            restore(2) = 1
            used() = 48
            put(0, 0, 4) = 0
            put(2, 0, 4) = 1
            used() = 48
            put(0, 2, 4) = 0
            used() = 51
            restore(1) = 1
            used() = 24
            """);
        check.run("3 a row of a later save is none of the earlier", """
            object(false) = 0
            save() = 1
            save() = 2
            put(0, 3, 1) = 0
            used() = 27
            restore(2) = 1
            used() = 18
            put(0, 3, 2) = 0
            used() = 21
            save() = 3
            put(0, 3, 3) = 2
            used() = 30
            restore(3) = 1
            get(0, 3) = 2
            restore(1) = 1
            get(0, 3) = 0
            used() = 12
            """);
        check.run("3 all cells of all objects in many saves", Lines.each(0, 3, "object(false) = #")
            + Lines.each(1, 9, "save() = #\n" + zeroInEachCellOfFour()) + "used() = " + (48 + 9 * (6 + 32 * 3)) + "\n");
    }

    private static String zeroInEachCellOfFour() {
        StringBuilder lines = new StringBuilder();
        for (int object = 0; object < 4; object++) {
            for (int i = 0; i < 8; i++) {
                lines.append("put(").append(object).append(", ").append(i).append(", 0) = 0\n");
            }
        }
        return lines.toString();
    }

    private void promise4Get() {
        check.run("4 each cell apart", "object(false) = 0\n object(true) = 1\n"
            + Lines.each(0, 7, "put(0, #, 1#) = 0\n put(1, #, 2#) = 0")
            + Lines.each(0, 7, "get(0, #) = 1#\n get(1, #) = 2#"));
        check.idle("4 refused", Lines.BUSY, """
            get(4, 0) = throws.NoSuchElementException
            get(-1, 0) = throws.NoSuchElementException
            get(%s, 0) = throws.NoSuchElementException
            get(%s, 0) = throws.NoSuchElementException
            get(4, 8) = throws.NoSuchElementException
            get(0, 8) = throws.IndexOutOfBoundsException
            get(0, -1) = throws.IndexOutOfBoundsException
            get(1, %s) = throws.IndexOutOfBoundsException
            get(1, %s) = throws.IndexOutOfBoundsException
            """.formatted(Lines.LEAST, Lines.GREATEST, Lines.LEAST, Lines.GREATEST));
    }

    private void promise5Save() {
        check.run("5 numbers go on", """
            save() = 1
            restore(1) = 1
            save() = 2
            save() = 3
            restore(3) = 1
            save() = 4
            used() = 12
            """);
        check.run("5 at most 16 live", Lines.each(1, 16, "save() = #")
            + "save() = throws.UnsupportedOperationException\n used() = 96\n restore(16) = 1\n save() = 17\n"
            + "save() = throws.UnsupportedOperationException\n restore(17) = 1\n restore(15) = 1\n save() = 18\n");
        check.idle("5 refused",
            Lines.BUSY + Lines.each(3, 16, "save() = #") + Lines.eachDown(16, 4, "put(0, 0, 7) = 7"),
            "save() = throws.UnsupportedOperationException\n save() = throws.UnsupportedOperationException\n");
    }

    private void promise6Restore() {
        check.idle("6 never made", Lines.BUSY, """
            restore(0) = -1
            restore(3) = -1
            restore(-1) = -1
            restore(%s) = -1
            restore(%s) = -1
            """.formatted(Lines.LEAST, Lines.GREATEST));
        check.idle("6 lives no more", Lines.BUSY + "save() = 3\n restore(3) = 1\n",
            "restore(3) = -2\n restore(3) = -2\n");
        check.idle("6 a later one lives", Lines.BUSY, "restore(1) = -3\n restore(1) = -3\n");
        check.idle("6 a kept one refers to a newer", Lines.BUSY + "state(9, -4) = 0\n",
            "restore(2) = -4\n restore(2) = -4\n");
        check.idle("6 the other kept one, too", Lines.BUSY + "state(8, -4) = -2\n", "restore(2) = -4\n");
        check.run("6 the first answer that fits", """
            save() = 1
            save() = 2
            object(false) = 0
            state(8, -1) = 0
            restore(3) = -1
            restore(1) = -3
            restore(2) = -4
            state(8, 0) = -1
            restore(2) = 1
            object(false) = 1
            state(9, -2) = 0
            restore(2) = -2
            restore(1) = -4
            restore(4) = -1
            """);
        check.run("6 sixteen, then none", Lines.each(1, 16, "save() = #") + Lines.each(1, 15, "restore(#) = -3")
            + Lines.eachDown(16, 1, "restore(#) = 1\n restore(#) = -2") + "used() = 0\n save() = 17\n");
    }

    private void promise6Undoes() {
        check.run("6 undoes", Lines.BUSY + """
            bytes(0, 0, 66) = 65
            bytes(2, 1, 9) = 0
            put(1, 7, 9) = 8
            object(true) = 4
            put(4, 0, -2) = 0
            bytes(4, 0, 3) = 0
            used() = 111
            restore(2) = 1
            get(0, 0) = 6
            get(0, 1) = -2
            get(1, 7) = 9
            get(2, 2) = -1
            get(2, 3) = 0
            get(3, 0) = throws.NoSuchElementException
            get(4, 0) = -2
            bytes(0, 0, -1) = 66
            bytes(2, 1, -1) = 9
            bytes(4, 0, -1) = 3
            stateOf(0) = 4
            stateOf(8) = -2
            used() = 77
            pop() = 0
            stateOf(0) = 3
            pop() = -1
            restore(1) = 1
            get(0, 0) = 5
            get(2, 2) = throws.NoSuchElementException
            get(4, 0) = -2
            stateOf(0) = 2
            stateOf(8) = -2
            used() = 46
            pop() = 0
            stateOf(0) = 1
            pop() = -1
            deepest() = 2
            """);
        check.run("6 all parameters but the kept ones", Lines.each(0, 9, "state(#, 1#) = 0") + "save() = 1\n"
            + Lines.each(0, 9, "state(#, 2#) = 1#") + "restore(1) = 1\n"
            + Lines.each(0, 7, "stateOf(#) = 1#") + Lines.each(8, 9, "stateOf(#) = 2#"));
        check.run("6 all cells, also put twice", "object(false) = 0\n object(true) = 1\n"
            + Lines.each(0, 7, "put(0, #, 1#) = 0\n put(1, #, 1#) = 0") + "save() = 1\n"
            + Lines.each(0, 7, "put(0, #, 2#) = 1#\n put(0, #, 3#) = 2#\n put(1, #, 3#) = 1#") + "restore(1) = 1\n"
            + Lines.each(0, 7, "get(0, #) = 1#\n get(1, #) = 3#"));
        check.run("6 what a restored save kept is used no more", """
            object(false) = 0
            save() = 1
            put(0, 0, 1) = 0
            restore(1) = 1
            put(0, 0, 2) = 0
            save() = 2
            used() = 18
            restore(2) = 1
            get(0, 0) = 2
            """);
    }

    private void promise6Refuses() {
        check.run("6 what kept parameters may refer to", """
            object(false) = 0
            save() = 1
            object(true) = 1
            object(false) = 2
            state(8, -1) = 0
            state(9, -2) = 0
            state(7, -3) = 0
            state(0, -3) = 0
            push() = 1
            restore(1) = 1
            stateOf(7) = 0
            stateOf(8) = -1
            stateOf(9) = -2
            """);
        check.run("6 newer than one save, not newer than another", """
            save() = 1
            object(false) = 0
            save() = 2
            state(8, -1) = 0
            restore(2) = 1
            stateOf(8) = -1
            restore(1) = -4
            get(0, 0) = 0
            state(8, 0) = -1
            restore(1) = 1
            get(0, 0) = throws.NoSuchElementException
            """);
    }

    private void promise7State() {
        check.run("7 values", "object(false) = 0\n object(true) = 1\n"
            + Lines.each(0, 9, "state(#, 1#) = 0") + Lines.each(0, 9, "state(#, -1) = 1#")
            + Lines.each(0, 9, "state(#, -2) = -1") + Lines.each(0, 9, "state(#, " + Lines.GREATEST + ") = -2")
            + Lines.each(0, 9, "stateOf(#) = " + Lines.GREATEST));
        check.run("7 makes no row", "save() = 1\n state(0, 1) = 0\n state(9, 1) = 0\n used() = 6\n");
        check.idle("7 refused", Lines.BUSY, """
            state(0, -5) = throws.NoSuchElementException
            state(9, %s) = throws.NoSuchElementException
            state(10, -5) = throws.NoSuchElementException
            state(-1, -5) = throws.NoSuchElementException
            state(10, 0) = throws.IndexOutOfBoundsException
            state(-1, -1) = throws.IndexOutOfBoundsException
            state(%s, 0) = throws.IndexOutOfBoundsException
            state(%s, 0) = throws.IndexOutOfBoundsException
            """.formatted(Lines.LEAST, Lines.LEAST, Lines.GREATEST));
        check.run("7 what is gone can't be referred to", """
            save() = 1
            object(false) = 0
            state(0, -1) = 0
            restore(1) = 1
            stateOf(0) = 0
            state(0, -1) = throws.NoSuchElementException
            """);
    }

    private void promise8StateOf() {
        check.run("8 each apart", Lines.each(0, 9, "state(#, 3#) = 0") + Lines.each(0, 9, "stateOf(#) = 3#"));
        check.idle("8 refused", Lines.BUSY, """
            stateOf(10) = throws.IndexOutOfBoundsException
            stateOf(-1) = throws.IndexOutOfBoundsException
            stateOf(%s) = throws.IndexOutOfBoundsException
            stateOf(%s) = throws.IndexOutOfBoundsException
            """.formatted(Lines.LEAST, Lines.GREATEST));
    }

    private void promise9Push() {
        check.run("9 counted behind the latest save", """
            push() = 1
            push() = 2
            save() = 1
            push() = 1
            save() = 2
            push() = 1
            push() = 2
            used() = 62
            restore(2) = 1
            push() = 2
            restore(1) = 1
            push() = 3
            used() = 30
            """);
        check.run("9 the parameters stay", "state(3, 7) = 0\n state(9, 8) = 0\n push() = 1\n"
            + "stateOf(3) = 7\n stateOf(9) = 8\n");
        check.run("9 at most 30 in all", Lines.each(1, 10, "push() = #") + "save() = 1\n"
            + Lines.each(1, 20, "push() = #")
            + "push() = throws.UnsupportedOperationException\n used() = 306\n pop() = 19\n push() = 20\n"
            + "push() = throws.UnsupportedOperationException\n restore(1) = 1\n push() = 11\n");
        check.idle("9 refused", Lines.BUSY + Lines.each(2, 28, "state(0, #) = -4\n push() = #\n state(0, -4) = #"),
            "push() = throws.UnsupportedOperationException\n push() = throws.UnsupportedOperationException\n");
    }

    private void promise10Pop() {
        check.run("10 the last first", Lines.each(0, 9, "state(#, 1#) = 0") + "push() = 1\n"
            + Lines.each(0, 9, "state(#, 2#) = 1#") + "push() = 2\n" + Lines.each(0, 9, "state(#, 3#) = 2#")
            + "pop() = 1\n" + Lines.each(0, 7, "stateOf(#) = 2#") + Lines.each(8, 9, "stateOf(#) = 3#")
            + "pop() = 0\n" + Lines.each(0, 7, "stateOf(#) = 1#") + Lines.each(8, 9, "stateOf(#) = 3#")
            + "pop() = -1\n" + Lines.each(0, 7, "stateOf(#) = 1#") + "used() = 0\n");
        check.idle("10 nothing to pop", Lines.BUSY + "pop() = 0\n", "pop() = -1\n pop() = -1\n");
        check.run("10 not beyond the latest save", """
            state(0, 1) = 0
            push() = 1
            save() = 1
            state(0, 2) = 1
            pop() = -1
            stateOf(0) = 2
            push() = 1
            save() = 2
            pop() = -1
            restore(2) = 1
            pop() = 0
            pop() = -1
            restore(1) = 1
            stateOf(0) = 1
            state(0, 3) = 1
            pop() = 0
            stateOf(0) = 1
            pop() = -1
            """);
        check.run("10 thirty", Lines.each(1, 30, "state(0, #) = @\n push() = #")
            + Lines.eachDown(30, 1, "pop() = @\n stateOf(0) = #"));
    }

    private void promise11Bytes() {
        check.run("11 values", "object(false) = 0\n object(true) = 1\n"
            + Lines.each(0, 7, "bytes(0, #, 10#) = 0\n bytes(1, #, 20#) = 0")
            + Lines.each(0, 7, "bytes(0, #, -1) = 10#\n bytes(0, #, -1) = 10#\n bytes(1, #, -1) = 20#")
            + "bytes(0, 0, 255) = 100\n bytes(0, 0, 0) = 255\n bytes(0, 0, 128) = 0\n bytes(0, 0, -1) = 128\n"
            + Lines.each(0, 7, "get(0, #) = 0"));
        check.idle("11 refused", Lines.BUSY, """
            bytes(4, 0, 1) = throws.NoSuchElementException
            bytes(-1, 0, 1) = throws.NoSuchElementException
            bytes(%s, 0, 1) = throws.NoSuchElementException
            bytes(%s, 0, 1) = throws.NoSuchElementException
            bytes(4, 8, 256) = throws.NoSuchElementException
            bytes(0, 8, 1) = throws.IndexOutOfBoundsException
            bytes(0, -1, 1) = throws.IndexOutOfBoundsException
            bytes(0, 8, -1) = throws.IndexOutOfBoundsException
            bytes(0, %s, 1) = throws.IndexOutOfBoundsException
            bytes(0, %s, 1) = throws.IndexOutOfBoundsException
            bytes(0, 0, 256) = throws.IndexOutOfBoundsException
            bytes(0, 0, -2) = throws.IndexOutOfBoundsException
            bytes(0, 0, %s) = throws.IndexOutOfBoundsException
            bytes(0, 0, %s) = throws.IndexOutOfBoundsException
            """.formatted(Lines.LEAST, Lines.GREATEST, Lines.LEAST, Lines.GREATEST, Lines.LEAST, Lines.GREATEST));
        check.run("11 stay behind a restore", """
            object(false) = 0
            bytes(0, 7, 1) = 0
            save() = 1
            object(false) = 1
            bytes(0, 7, 2) = 1
            bytes(1, 7, 3) = 0
            used() = 30
            restore(1) = 1
            bytes(0, 7, -1) = 2
            bytes(1, 7, -1) = throws.NoSuchElementException
            """);
    }

    private void promise12Used() {
        check.run("12 each kind", """
            used() = 0
            object(false) = 0
            used() = 12
            object(true) = 1
            used() = 24
            push() = 1
            used() = 34
            save() = 1
            used() = 40
            put(0, 0, 0) = 0
            used() = 43
            push() = 1
            used() = 53
            object(true) = 2
            object(false) = 3
            used() = 77
            pop() = 0
            used() = 67
            restore(1) = 1
            used() = 46
            pop() = 0
            used() = 36
            """);
    }

    private void promise13Old() {
        check.run("13 saves before an object", """
            object(false) = 0
            save() = 1
            object(true) = 1
            save() = 2
            save() = 3
            object(false) = 2
            object(true) = 3
            old(0) = 0
            old(1) = 1
            old(2) = 3
            old(3) = 3
            restore(3) = 1
            old(2) = throws.NoSuchElementException
            old(3) = 2
            save() = 4
            old(0) = 0
            old(1) = 1
            old(3) = 2
            restore(4) = 1
            restore(2) = 1
            restore(1) = 1
            old(1) = 0
            old(3) = 0
            """);
        check.idle("13 refused", Lines.BUSY, """
            old(4) = throws.NoSuchElementException
            old(-1) = throws.NoSuchElementException
            old(%s) = throws.NoSuchElementException
            old(%s) = throws.NoSuchElementException
            """.formatted(Lines.LEAST, Lines.GREATEST));
    }

    private void promise14Deepest() {
        check.run("14 the greatest number", """
            deepest() = 0
            save() = 1
            deepest() = 1
            restore(1) = 1
            save() = 2
            deepest() = 1
            save() = 3
            deepest() = 2
            restore(3) = 1
            restore(2) = 1
            deepest() = 2
            save() = 4
            deepest() = 2
            """);
        check.run("14 sixteen", Lines.each(1, 16, "save() = #\n deepest() = #")
            + "save() = throws.UnsupportedOperationException\n deepest() = 16\n");
    }
}
