/** For each sentence of the promises that names a boundary case a test of its own, named after its words. */
public final class PromiseEdgesTest {
    private final Check check = new Check();

    private PromiseEdgesTest() {
    }

    public static void main(String[] args) {
        PromiseEdgesTest tests = new PromiseEdgesTest();
        tests.promise1NoObjectsNoSaves();
        tests.promise2When200();
        tests.promise3Cells();
        tests.promise3NoSuch();
        tests.promise3OutOfBounds();
        tests.promise3Illegal();
        tests.promise4Edges();
        tests.promise5When16Live();
        tests.promise6NeverMade();
        tests.promise6LivesNoMore();
        tests.promise6OneBehindLives();
        tests.promise6KeptRefersToNewer();
        tests.promise6KeptMayRefer();
        tests.promise6FirstThatFits();
        tests.promise7Edges();
        tests.promise8Edges();
        tests.promise9Counts();
        tests.promise9When30();
        tests.promise10Counts();
        tests.promise10NoneOfThese();
        tests.promise11Edges();
        tests.promise11Stays();
        tests.promise12Edges();
        tests.promise13Edges();
        tests.promise14Edges();
        tests.check.end();
    }

    private void promise1NoObjectsNoSaves() {
        check.run("1 No objects, no saves", """
            used() = 0
            deepest() = 0
            old(0) = throws.NoSuchElementException
            get(0, 0) = throws.NoSuchElementException
            put(0, 0, 0) = throws.NoSuchElementException
            bytes(0, 0, -1) = throws.NoSuchElementException
            state(0, -1) = throws.NoSuchElementException
            restore(1) = -1
            restore(0) = -1
            pop() = -1
            used() = 0
            """);
        check.run("1 all parameters are 0", Lines.each(0, 9, "stateOf(#) = 0"));
        check.run("1 all parameters are 0, as their first answer", Lines.each(0, 9, "state(#, 1) = 0"));
        check.run("1 the first of each kind", "object(true) = 0\n save() = 1\n push() = 1\n");
    }

    private void promise2When200() {
        String name = "2 UnsupportedOperationException when there are 200";
        check.run(name + ": 199 and the last", Lines.each(0, 198, "object(false) = #") + """
            used() = 2388
            object(true) = 199
            object(true) = throws.UnsupportedOperationException
            object(false) = throws.UnsupportedOperationException
            used() = 2400
            get(199, 7) = 0
            get(200, 0) = throws.NoSuchElementException
            put(198, 0, -200) = 0
            put(0, 0, -201) = throws.NoSuchElementException
            """);
        check.run(name + ": global ones", Lines.each(0, 199, "object(true) = #") + """
            object(true) = throws.UnsupportedOperationException
            object(false) = throws.UnsupportedOperationException
            used() = 2400
            """);
        check.run(name + ": there are less again, and no number was given away", "object(false) = 0\n save() = 1\n"
            + Lines.each(1, 198, "object(false) = #") + """
            object(true) = 199
            object(false) = throws.UnsupportedOperationException
            object(false) = throws.UnsupportedOperationException
            restore(1) = 1
            used() = 24
            """ + Lines.each(200, 397, "object(false) = #") + """
            object(false) = throws.UnsupportedOperationException
            used() = 2400
            get(0, 0) = 0
            get(199, 0) = 0
            get(397, 0) = 0
            get(398, 0) = throws.NoSuchElementException
            """);
        check.run(name + ": newer global ones stay and count", "save() = 1\n"
            + Lines.each(0, 199, "object(true) = #") + """
            restore(1) = 1
            object(false) = throws.UnsupportedOperationException
            used() = 2400
            """);
        check.refused(name, "save() = 1\n" + Lines.each(0, 149, "object(false) = #")
            + Lines.each(150, 199, "object(true) = #"), Lines.UNSUPPORTED, "object(false)", "object(true)");
    }

    private void promise3Cells() {
        check.run("3 A cell i (0 .. 7) gets a value: the one before", "object(false) = 0\n object(true) = 1\n"
            + Lines.each(0, 7, "put(0, #, 1#) = 0\n put(1, #, 2#) = 0")
            + Lines.each(0, 7, "put(0, #, -1) = 1#\n put(1, #, -2) = 2#")
            + Lines.each(0, 7, "put(0, #, 0) = -1\n put(1, #, 0) = -2")
            + Lines.each(0, 7, "put(0, #, " + Lines.GREATEST + ") = 0\n get(0, #) = " + Lines.GREATEST));
    }

    private void promise3NoSuch() {
        check.refused("3 NoSuchElementException: the object", Lines.BUSY, Lines.NO_SUCH,
            "put(-1, 0, 1)", "put(4, 0, 1)", "put(" + Lines.LEAST + ", 0, 1)", "put(" + Lines.GREATEST + ", 0, 1)",
            "put(200, 0, 1)");
        check.refused("3 NoSuchElementException: the one that the value refers to", Lines.BUSY, Lines.NO_SUCH,
            "put(0, 0, -5)", "put(1, 0, -5)", "put(3, 7, -5)", "put(0, 0, -201)", "put(0, 0, " + Lines.LEAST + ")");
        check.refused("3 NoSuchElementException: gone", Lines.GAPS, Lines.NO_SUCH,
            "put(2, 0, 1)", "put(4, 0, 1)", "put(0, 0, -3)", "put(0, 0, -5)", "put(1, 0, -3)", "put(3, 0, -5)");
        check.refused("3 NoSuchElementException: gone, with an index that is none", Lines.GAPS, Lines.NO_SUCH,
            "put(2, 8, 1)", "put(0, 8, -3)", "put(1, -1, -5)");
        check.run("3 the last object and the last reference that are right", Lines.BUSY + """
            put(3, 0, -4) = 0
            put(0, 7, -4) = 0
            put(1, 0, -2) = 0
            """);
    }

    private void promise3OutOfBounds() {
        check.refused("3 IndexOutOfBoundsException", Lines.BUSY, Lines.OUT_OF_BOUNDS,
            "put(0, -1, 1)", "put(0, 8, 1)", "put(1, -1, 1)", "put(1, 8, 1)", "put(3, 9, -4)", "put(0, 256, 1)",
            "put(0, " + Lines.LEAST + ", 1)", "put(0, " + Lines.GREATEST + ", 1)");
    }

    private void promise3Illegal() {
        String name = "3 IllegalStateException when a global object's cell would refer to a local one";
        check.refused(name, Lines.BUSY, Lines.ILLEGAL,
            "put(1, 0, -1)", "put(1, 7, -1)", "put(1, 0, -3)", "put(1, 7, -4)");
        check.refused(name + ": the global one newer than the local one", Lines.GAPS, Lines.ILLEGAL,
            "put(3, 0, -1)", "put(3, 7, -1)");
        check.run(name + ": not without a save either", """
            object(true) = 0
            object(false) = 1
            put(0, 3, 4) = 0
            put(0, 3, -2) = throws.IllegalStateException
            get(0, 3) = 4
            put(0, 3, -1) = 4
            put(1, 3, -2) = 0
            used() = 24
            """);
    }

    private void promise4Edges() {
        check.run("4 The value of a cell, the first and the last", Lines.BUSY + """
            get(0, 0) = 7
            get(0, 1) = -2
            get(1, 7) = 8
            get(3, 7) = 0
            get(2, 3) = -4
            """);
        check.refused("4 NoSuchElementException", Lines.BUSY, Lines.NO_SUCH, "get(-1, 0)", "get(4, 0)",
            "get(" + Lines.LEAST + ", 0)", "get(" + Lines.GREATEST + ", 0)", "get(4, 8)", "get(-1, -1)");
        check.refused("4 NoSuchElementException: gone", Lines.GAPS, Lines.NO_SUCH,
            "get(2, 0)", "get(4, 7)", "get(2, 8)");
        check.refused("4 IndexOutOfBoundsException", Lines.BUSY, Lines.OUT_OF_BOUNDS, "get(0, -1)", "get(0, 8)",
            "get(1, -1)", "get(1, 8)", "get(0, " + Lines.LEAST + ")", "get(0, " + Lines.GREATEST + ")");
    }

    private void promise5When16Live() {
        String name = "5 UnsupportedOperationException when 16 live";
        check.run(name + ": 15 and the last", Lines.each(1, 15, "save() = #") + """
            used() = 90
            save() = 16
            used() = 96
            save() = throws.UnsupportedOperationException
            save() = throws.UnsupportedOperationException
            used() = 96
            restore(17) = -1
            """);
        check.run(name + ": those that live no more do not count", Lines.each(1, 20, "save() = #\n restore(#) = 1")
            + Lines.each(21, 36, "save() = #") + """
            save() = throws.UnsupportedOperationException
            restore(36) = 1
            save() = 37
            save() = throws.UnsupportedOperationException
            restore(36) = -2
            restore(37) = 1
            restore(35) = 1
            save() = 38
            save() = 39
            save() = throws.UnsupportedOperationException
            """);
        check.refused(name, Lines.SIXTEEN_SAVES, Lines.UNSUPPORTED, "save()");
        check.run(name + ": then each goes back to what was", Lines.SIXTEEN_SAVES
            + "save() = throws.UnsupportedOperationException\n"
            + Lines.eachDown(16, 1, "restore(#) = 1\n get(0, 0) = @\n stateOf(0) = @") + "used() = 22\n save() = 17\n");
    }

    private void promise6NeverMade() {
        String name = "6 -1 when there never was one of that number";
        check.idle(name, Lines.BUSY, "restore(0) = -1\n restore(-1) = -1\n restore(3) = -1\n restore(17) = -1\n"
            + "restore(" + Lines.LEAST + ") = -1\n restore(" + Lines.GREATEST + ") = -1\n");
        check.run(name + ": the next number, until it is made", "restore(1) = -1\n"
            + Lines.each(1, 16, "restore(#) = -1\n save() = #") + "restore(17) = -1\n"
            + "save() = throws.UnsupportedOperationException\n restore(17) = -1\n"
            + Lines.eachDown(16, 1, "restore(#) = 1") + "restore(17) = -1\n restore(0) = -1\n");
        check.run(name + ": also where none lives",
            "save() = 1\n restore(1) = 1\n restore(2) = -1\n restore(0) = -1\n");
    }

    private void promise6LivesNoMore() {
        String name = "6 -2 when it does not live any more";
        check.idle(name, Lines.BUSY + "save() = 3\n restore(3) = 1\n", "restore(3) = -2\n restore(3) = -2\n");
        check.run(name + ": each that was restored, for ever", Lines.each(1, 16, "save() = #")
            + Lines.eachDown(16, 1, "restore(#) = 1\n restore(#) = -2") + Lines.each(1, 16, "restore(#) = -2")
            + Lines.each(17, 32, "save() = #") + Lines.each(1, 16, "restore(#) = -2")
            + Lines.each(17, 31, "restore(#) = -3")
            + Lines.eachDown(32, 17, "restore(#) = 1") + Lines.each(1, 32, "restore(#) = -2"));
        check.run(name + ": between those that live", """
            save() = 1
            save() = 2
            restore(2) = 1
            save() = 3
            save() = 4
            restore(4) = 1
            restore(2) = -2
            restore(4) = -2
            used() = 12
            restore(3) = 1
            restore(1) = 1
            """);
    }

    private void promise6OneBehindLives() {
        String name = "6 -3 when a save that was made behind it lives";
        check.idle(name, Lines.BUSY, "restore(1) = -3\n restore(1) = -3\n");
        check.run(name + ": one, and fifteen", Lines.each(1, 16, "save() = #") + Lines.each(1, 15, "restore(#) = -3")
            + "used() = 96\n restore(16) = 1\n" + Lines.each(1, 14, "restore(#) = -3")
            + "used() = 90\n restore(15) = 1\n");
        check.run(name + ": not when the one behind it lives no more", """
            save() = 1
            save() = 2
            restore(1) = -3
            restore(2) = 1
            restore(1) = 1
            """);
        check.run(name + ": not the next number", "save() = 1\n save() = 2\n restore(2) = 1\n save() = 3\n"
            + "restore(1) = -3\n restore(3) = 1\n restore(1) = 1\n");
    }

    private void promise6KeptRefersToNewer() {
        String name = "6 -4 when a kept parameter refers to a local object that is newer than it";
        check.idle(name + ": 8", Lines.BUSY + "state(8, -4) = -2\n", "restore(2) = -4\n restore(2) = -4\n");
        check.idle(name + ": 9", Lines.BUSY + "state(9, -4) = 0\n", "restore(2) = -4\n restore(2) = -4\n");
        check.idle(name + ": both", Lines.BUSY + "state(8, -4) = -2\n state(9, -4) = 0\n", "restore(2) = -4\n");
        check.run(name + ": then it no more does", Lines.BUSY + """
            state(8, -4) = -2
            state(9, -4) = 0
            restore(2) = -4
            state(8, 0) = -4
            restore(2) = -4
            state(9, -3) = -4
            restore(2) = 1
            stateOf(9) = -3
            restore(1) = -4
            state(9, 2) = -3
            restore(1) = 1
            stateOf(9) = 2
            """);
        check.run(name + ": the one made just behind it", """
            object(false) = 0
            save() = 1
            object(false) = 1
            object(false) = 2
            state(8, -2) = 0
            restore(1) = -4
            state(8, -3) = -2
            restore(1) = -4
            state(8, -1) = -3
            restore(1) = 1
            """);
    }

    private void promise6KeptMayRefer() {
        String name = "6 -4 when a kept parameter refers to a local object that is newer than it";
        check.run(name + ": not a global one, though newer", """
            save() = 1
            object(true) = 0
            state(8, -1) = 0
            state(9, -1) = 0
            restore(1) = 1
            stateOf(8) = -1
            stateOf(9) = -1
            """);
        check.run(name + ": not one that is just not newer", """
            object(false) = 0
            save() = 1
            object(false) = 1
            state(8, -1) = 0
            state(9, -1) = 0
            restore(1) = 1
            stateOf(8) = -1
            """);
        check.run(name + ": not parameter 7, nor a cell", """
            object(false) = 0
            object(true) = 1
            save() = 1
            object(false) = 2
            state(7, -3) = 0
            state(0, -3) = 0
            put(0, 0, -3) = 0
            put(2, 0, -3) = 0
            push() = 1
            restore(1) = 1
            get(0, 0) = 0
            stateOf(7) = 0
            """);
    }

    private void promise6FirstThatFits() {
        check.run("6 -3 where -4 would fit too", """
            save() = 1
            object(false) = 0
            save() = 2
            state(8, -1) = 0
            restore(1) = -3
            restore(2) = 1
            restore(1) = -4
            """);
        check.run("6 -1 and -2 whatever the kept parameters refer to", """
            save() = 1
            save() = 2
            restore(2) = 1
            object(false) = 0
            state(9, -1) = 0
            restore(0) = -1
            restore(3) = -1
            restore(2) = -2
            restore(1) = -4
            """);
        check.run("6 A save is RESTORED: 1", "save() = 1\n restore(1) = 1\n");
    }

    private void promise7Edges() {
        check.run("7 A parameter what (0 .. 9) gets a value: the one before", "object(false) = 0\n"
            + Lines.each(0, 9, "state(#, 1#) = 0") + Lines.each(0, 9, "state(#, -1) = 1#")
            + Lines.each(0, 9, "state(#, " + Lines.GREATEST + ") = -1")
            + Lines.each(0, 9, "state(#, 0) = " + Lines.GREATEST));
        check.refused("7 NoSuchElementException: it never was", Lines.BUSY, Lines.NO_SUCH,
            "state(0, -5)", "state(7, -5)", "state(8, -5)", "state(9, -5)", "state(0, " + Lines.LEAST + ")",
            "state(10, -5)", "state(-1, -5)");
        check.refused("7 NoSuchElementException: gone", Lines.GAPS, Lines.NO_SUCH,
            "state(0, -3)", "state(9, -3)", "state(0, -5)", "state(8, -5)", "state(10, -3)");
        check.refused("7 IndexOutOfBoundsException", Lines.BUSY, Lines.OUT_OF_BOUNDS, "state(-1, 0)", "state(10, 0)",
            "state(-1, -1)", "state(10, -4)", "state(" + Lines.LEAST + ", 0)", "state(" + Lines.GREATEST + ", 0)");
        check.run("7 the last reference that is right", Lines.BUSY + "state(9, -4) = 0\n state(0, -1) = -4\n");
    }

    private void promise8Edges() {
        check.run("8 The value of a parameter, the first and the last",
            "state(0, 3) = 0\n state(9, 4) = 0\n stateOf(0) = 3\n stateOf(9) = 4\n stateOf(1) = 0\n stateOf(8) = 0\n");
        check.refused("8 IndexOutOfBoundsException", Lines.BUSY, Lines.OUT_OF_BOUNDS,
            "stateOf(-1)", "stateOf(10)", "stateOf(" + Lines.LEAST + ")", "stateOf(" + Lines.GREATEST + ")");
    }

    private void promise9Counts() {
        check.run("9 The parameters 0 .. 7 are PUSHED, 8 and 9 are not", Lines.each(0, 9, "state(#, 1#) = 0")
            + "push() = 1\n" + Lines.each(0, 9, "stateOf(#) = 1#") + Lines.each(0, 9, "state(#, 2#) = 1#")
            + "pop() = 0\n" + Lines.each(0, 7, "stateOf(#) = 1#") + Lines.each(8, 9, "stateOf(#) = 2#"));
        check.run("9 how many were pushed behind the latest save that lives (and not popped)", """
            push() = 1
            push() = 2
            pop() = 1
            push() = 2
            save() = 1
            push() = 1
            push() = 2
            pop() = 1
            push() = 2
            save() = 2
            push() = 1
            restore(2) = 1
            push() = 3
            restore(1) = 1
            push() = 3
            """);
    }

    private void promise9When30() {
        String name = "9 UnsupportedOperationException when there are 30 in all";
        check.run(name + ": 29 and the last", Lines.each(1, 29, "push() = #") + """
            used() = 290
            push() = 30
            push() = throws.UnsupportedOperationException
            push() = throws.UnsupportedOperationException
            used() = 300
            pop() = 29
            push() = 30
            push() = throws.UnsupportedOperationException
            """);
        check.run(name + ": in all, not behind the latest save", Lines.each(1, 29, "push() = #") + """
            save() = 1
            push() = 1
            push() = throws.UnsupportedOperationException
            save() = 2
            push() = throws.UnsupportedOperationException
            pop() = -1
            used() = 312
            restore(2) = 1
            push() = throws.UnsupportedOperationException
            restore(1) = 1
            push() = 30
            push() = throws.UnsupportedOperationException
            """);
        check.run(name + ": each as it was pushed", Lines.each(1, 30, "state(0, #) = @\n push() = #")
            + "state(0, 99) = 30\n push() = throws.UnsupportedOperationException\n stateOf(0) = 99\n"
            + Lines.eachDown(30, 1, "pop() = @\n stateOf(0) = #") + "pop() = -1\n");
        check.refused(name, Lines.BUSY + Lines.each(2, 28, "state(0, #) = -4\n push() = #\n state(0, -4) = #"),
            Lines.UNSUPPORTED, "push()");
    }

    private void promise10Counts() {
        check.run("10 The parameters 0 .. 7 become those that were pushed last, which go", """
            state(0, 1) = 0
            state(7, 2) = 0
            state(8, 3) = 0
            push() = 1
            state(0, 4) = 1
            push() = 2
            state(0, 5) = 4
            state(7, 6) = 2
            state(8, 7) = 3
            state(9, 8) = 0
            used() = 20
            pop() = 1
            used() = 10
            stateOf(0) = 4
            stateOf(7) = 2
            stateOf(8) = 7
            stateOf(9) = 8
            state(7, 9) = 2
            pop() = 0
            used() = 0
            stateOf(0) = 1
            stateOf(7) = 2
            stateOf(8) = 7
            """);
        check.run("10 how many are pushed still behind the latest save that lives", """
            push() = 1
            push() = 2
            save() = 1
            push() = 1
            push() = 2
            pop() = 1
            save() = 2
            push() = 1
            pop() = 0
            restore(2) = 1
            pop() = 0
            restore(1) = 1
            pop() = 1
            pop() = 0
            """);
    }

    private void promise10NoneOfThese() {
        String name = "10 -1, and nothing is done, when there is none of these";
        check.idle(name, Lines.BUSY + "pop() = 0\n", "pop() = -1\n pop() = -1\n");
        check.idle(name + ": none at all", "state(0, 5) = 0\n state(7, 6) = 0\n", "pop() = -1\n pop() = -1\n");
        check.idle(name + ": all before the save", "state(0, 5) = 0\n push() = 1\n state(0, 6) = 5\n save() = 1\n",
            "pop() = -1\n pop() = -1\n");
        check.idle(name + ": all before the later of two saves", """
            state(0, 5) = 0
            push() = 1
            save() = 1
            state(0, 6) = 5
            push() = 1
            save() = 2
            state(0, 7) = 6
            """, "pop() = -1\n pop() = -1\n");
        check.idle(name + ": the last one gone with its save", """
            save() = 1
            state(0, 6) = 0
            push() = 1
            restore(1) = 1
            state(0, 7) = 0
            """, "pop() = -1\n");
        check.idle(name + ": thirty before the save", Lines.each(1, 30, "state(0, #) = @\n push() = #")
            + "save() = 1\n", "pop() = -1\n");
    }

    private void promise11Edges() {
        check.run("11 A byte i (0 .. 7) becomes c (0 .. 255): the one before", "object(false) = 0\n object(true) = 1\n"
            + Lines.each(0, 7, "bytes(0, #, 255) = 0\n bytes(1, #, 1#) = 0")
            + Lines.each(0, 7, "bytes(0, #, 0) = 255\n bytes(1, #, 254) = 1#")
            + Lines.each(0, 7, "bytes(0, #, 127) = 0\n bytes(0, #, 128) = 127\n bytes(0, #, 1) = 128"));
        check.refused("11 NoSuchElementException", Lines.BUSY, Lines.NO_SUCH, "bytes(-1, 0, 1)", "bytes(4, 0, 1)",
            "bytes(" + Lines.LEAST + ", 0, 1)", "bytes(" + Lines.GREATEST + ", 0, 1)", "bytes(4, 0, -1)",
            "bytes(4, 8, 1)", "bytes(4, 0, 256)", "bytes(-1, -1, -2)");
        check.refused("11 NoSuchElementException: gone", Lines.GAPS, Lines.NO_SUCH,
            "bytes(2, 0, 1)", "bytes(4, 0, -1)", "bytes(2, 8, 256)");
        check.refused("11 IndexOutOfBoundsException: i", Lines.BUSY, Lines.OUT_OF_BOUNDS, "bytes(0, -1, 1)",
            "bytes(0, 8, 1)", "bytes(1, -1, 1)", "bytes(1, 8, 1)", "bytes(0, -1, -1)", "bytes(0, 8, -1)",
            "bytes(0, " + Lines.LEAST + ", 1)", "bytes(0, " + Lines.GREATEST + ", 1)");
        check.refused("11 IndexOutOfBoundsException: c", Lines.BUSY, Lines.OUT_OF_BOUNDS, "bytes(0, 0, -2)",
            "bytes(0, 0, 256)", "bytes(1, 7, -2)", "bytes(1, 7, 256)", "bytes(0, 0, 257)", "bytes(0, 0, 511)",
            "bytes(0, 0, " + Lines.LEAST + ")", "bytes(0, 0, " + Lines.GREATEST + ")", "bytes(0, 8, 256)");
    }

    private void promise11Stays() {
        check.run("11 -1: stays", "object(false) = 0\n object(true) = 1\n"
            + Lines.each(0, 7, "bytes(0, #, -1) = 0\n bytes(0, #, 255) = 0")
            + Lines.each(0, 7, "bytes(0, #, -1) = 255\n bytes(0, #, -1) = 255")
            + Lines.each(0, 7, "bytes(1, #, 1#) = 0\n bytes(1, #, -1) = 1#\n bytes(1, #, -1) = 1#"));
        check.idle("11 -1: stays, and nothing else is changed", Lines.BUSY,
            "bytes(0, 0, -1) = 65\n bytes(0, 7, -1) = 0\n bytes(3, 0, -1) = 0\n");
    }

    private void promise12Edges() {
        check.run("12 How many words are USED: nothing at first, nothing at last", """
            used() = 0
            push() = 1
            save() = 1
            object(false) = 0
            push() = 1
            save() = 2
            put(0, 0, 1) = 0
            push() = 1
            used() = 57
            restore(2) = 1
            used() = 38
            restore(1) = 1
            used() = 10
            pop() = 0
            used() = 0
            """);
        check.run("12 asking changes nothing", Lines.BUSY + """
            used() = 99
            used() = 99
            old(3) = 2
            deepest() = 2
            used() = 99
            get(0, 0) = 7
            restore(2) = 1
            used() = 65
            get(0, 0) = 6
            get(2, 3) = 0
            stateOf(0) = 4
            restore(1) = 1
            used() = 34
            get(0, 0) = 5
            stateOf(0) = 2
            """);
    }

    private void promise13Edges() {
        check.run("13 How many of the saves that live were made before an object: none, and all 16",
            "object(false) = 0\n object(true) = 1\n" + Lines.each(1, 16, "save() = #") + """
            object(false) = 2
            object(true) = 3
            old(0) = 0
            old(1) = 0
            old(2) = 16
            old(3) = 16
            restore(16) = 1
            old(1) = 0
            old(3) = 15
            save() = 17
            old(3) = 15
            object(false) = 4
            old(4) = 16
            """);
        check.run("13 How many of the saves that live: of a global one that stays they get less", """
            save() = 1
            save() = 2
            object(true) = 0
            old(0) = 2
            restore(2) = 1
            old(0) = 1
            restore(1) = 1
            old(0) = 0
            save() = 3
            old(0) = 0
            """);
        check.refused("13 NoSuchElementException", Lines.BUSY, Lines.NO_SUCH,
            "old(-1)", "old(4)", "old(" + Lines.LEAST + ")", "old(" + Lines.GREATEST + ")");
        check.refused("13 NoSuchElementException: gone", Lines.GAPS, Lines.NO_SUCH, "old(2)", "old(4)", "old(5)");
    }

    private void promise14Edges() {
        check.run("14 The greatest number of saves that lived at once: not how many were made", """
            deepest() = 0
            save() = 1
            restore(1) = 1
            save() = 2
            restore(2) = 1
            deepest() = 1
            save() = 3
            save() = 4
            deepest() = 2
            restore(4) = 1
            deepest() = 2
            restore(3) = 1
            deepest() = 2
            save() = 5
            deepest() = 2
            save() = 6
            deepest() = 2
            save() = 7
            deepest() = 3
            """);
        check.run("14 The greatest number of saves that lived at once: 16",
            Lines.each(1, 16, "save() = #\n deepest() = #")
            + "save() = throws.UnsupportedOperationException\n deepest() = 16\n"
            + Lines.eachDown(16, 1, "restore(#) = 1\n deepest() = 16") + "save() = 17\n deepest() = 16\n");
        check.run("14 a refused restore makes it no less and no more", """
            save() = 1
            save() = 2
            restore(1) = -3
            restore(3) = -1
            deepest() = 2
            """);
    }
}
