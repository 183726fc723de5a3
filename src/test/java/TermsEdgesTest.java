/** For each sentence of "Terms" that names a boundary case a test of its own, named after its words. */
public final class TermsEdgesTest {
    private final Check check = new Check();

    private TermsEdgesTest() {
    }

    public static void main(String[] args) {
        TermsEdgesTest tests = new TermsEdgesTest();
        tests.atMost512Calls();
        tests.numbersOfObjects();
        tests.aNumberIsNeverGivenTwice();
        tests.all0AtFirst();
        tests.aNumberOf0OrMore();
        tests.belowZeroAReference();
        tests.noGlobalRefersToALocal();
        tests.parametersLikewise();
        tests.eightAndNineAreKept();
        tests.numbersOfSaves();
        tests.aSaveLivesUntilItIsRestored();
        tests.newerIfMadeBehind();
        tests.eachCellGetsTheValueThatItHad();
        tests.newerLocalsAreGone();
        tests.statesPushedBehindAreGone();
        tests.theParametersAreAsTheyWere();
        tests.bytesStay();
        tests.globalObjectsStay();
        tests.aRowForALocalsCell();
        tests.aRowForTheSameValueToo();
        tests.aRowWhenASaveLives();
        tests.aRowWhenNotNewer();
        tests.oneRowForEachCell();
        tests.rowsGoWithTheirSave();
        tests.usedWords();
        tests.aThrowingCallChangesNothing();
        tests.theExceptionNamedFirst();
        tests.noSuchObject();
        tests.check.end();
    }

    /** 14 objects, then 4 saves with a row for each cell: 466 calls; then back again. */
    private void atMost512Calls() {
        StringBuilder lines = new StringBuilder(Lines.each(0, 13, "object(false) = #"));
        for (int save = 1; save <= 4; save++) {
            lines.append("save() = ").append(save).append('\n');
            for (int object = 0; object < 14; object++) {
                lines.append(Lines.each(0, 7, "put(" + object + ", #, " + save + ") = " + (save - 1)));
            }
        }
        lines.append("used() = ").append(14 * 12 + 4 * (6 + 112 * 3)).append('\n');
        for (int save = 4; save >= 1; save--) {
            lines.append("restore(").append(save).append(") = 1\n");
            lines.append(Lines.each(0, 3, "get(1#, 7) = " + (save - 1)));
            lines.append(Lines.each(0, 3, "get(#, 0) = " + (save - 1)));
            lines.append("used() = ").append(14 * 12 + (save - 1) * (6 + 112 * 3)).append('\n');
        }
        lines.append("deepest() = 4\n object(true) = 14\n save() = 5\n deepest() = 4\n used() = 186\n");
        check.due("512 calls", lines.toString().lines().count(), 512L);
        check.run("at most 512 calls", lines.toString());
    }

    private void numbersOfObjects() {
        check.run("OBJECTS have numbers 0, 1, .., as they are made", """
            get(0, 0) = throws.NoSuchElementException
            object(true) = 0
            get(0, 0) = 0
            get(1, 0) = throws.NoSuchElementException
            object(false) = 1
            get(1, 0) = 0
            save() = 1
            object(true) = 2
            push() = 1
            object(false) = 3
            get(3, 0) = 0
            get(4, 0) = throws.NoSuchElementException
            """);
    }

    private void aNumberIsNeverGivenTwice() {
        check.run("a number is never given twice: the last ones are gone", """
            object(false) = 0
            save() = 1
            object(false) = 1
            object(false) = 2
            restore(1) = 1
            object(false) = 3
            object(true) = 4
            get(1, 0) = throws.NoSuchElementException
            get(2, 0) = throws.NoSuchElementException
            get(3, 0) = 0
            """);
        check.run("a number is never given twice: all are gone", """
            save() = 1
            object(false) = 0
            restore(1) = 1
            save() = 2
            object(false) = 1
            restore(2) = 1
            used() = 0
            object(false) = 2
            get(0, 0) = throws.NoSuchElementException
            get(1, 0) = throws.NoSuchElementException
            """);
        check.run("a number is never given twice: one between stays", Lines.GAPS + """
            object(false) = 5
            object(true) = 6
            put(3, 0, 33) = 0
            put(5, 0, 55) = 0
            put(6, 0, 66) = 0
            get(3, 0) = 33
            get(5, 0) = 55
            get(6, 0) = 66
            get(2, 0) = throws.NoSuchElementException
            get(4, 0) = throws.NoSuchElementException
            """);
        check.run("a number is never given twice: far above 200", "save() = 1\n"
            + Lines.each(0, 198, "object(false) = #") + "object(true) = 199\n restore(1) = 1\n save() = 2\n"
            + Lines.each(200, 398, "object(false) = #") + """
            restore(2) = 1
            object(false) = 399
            get(199, 0) = 0
            get(200, 0) = throws.NoSuchElementException
            get(398, 0) = throws.NoSuchElementException
            put(399, 7, -400) = 0
            get(399, 7) = -400
            """);
    }

    private void all0AtFirst() {
        check.run("8 CELLS and 8 BYTES, all 0 at first", "object(false) = 0\n object(true) = 1\n"
            + Lines.each(0, 7, "get(0, #) = 0\n get(1, #) = 0\n bytes(0, #, -1) = 0\n bytes(1, #, -1) = 0"));
        check.run("all 0 at first, where one with others is gone", "save() = 1\n object(false) = 0\n"
            + Lines.each(0, 7, "put(0, #, 7) = 0\n bytes(0, #, 9) = 0") + "restore(1) = 1\n object(false) = 1\n"
            + Lines.each(0, 7, "get(1, #) = 0\n bytes(1, #, -1) = 0"));
        check.run("no cell and no byte but 0 .. 7", """
            object(false) = 0
            get(0, -1) = throws.IndexOutOfBoundsException
            get(0, 8) = throws.IndexOutOfBoundsException
            bytes(0, -1, -1) = throws.IndexOutOfBoundsException
            bytes(0, 8, -1) = throws.IndexOutOfBoundsException
            """);
    }

    private void aNumberOf0OrMore() {
        check.run("a number of 0 or more refers to nothing, not in a global object either", """
            object(true) = 0
            object(false) = 1
            put(0, 0, 0) = 0
            put(0, 0, 1) = 0
            put(0, 0, %1$s) = 1
            put(0, 0, 0) = %1$s
            put(1, 0, %1$s) = 0
            put(1, 0, 200) = %1$s
            put(1, 0, 0) = 200
            state(9, 0) = 0
            state(9, 1) = 0
            state(9, %1$s) = 1
            state(9, 0) = %1$s
            """.formatted(Lines.GREATEST));
        check.run("a number refers to no newer object", """
            save() = 1
            object(false) = 0
            object(false) = 1
            state(8, 0) = 0
            state(9, 1) = 0
            restore(1) = 1
            """);
    }

    private void belowZeroAReference() {
        check.run("a REFERENCE to the object -1 - value: -1 to object 0", """
            state(0, -1) = throws.NoSuchElementException
            object(false) = 0
            state(0, -1) = 0
            state(0, -2) = throws.NoSuchElementException
            put(0, 0, -1) = 0
            put(0, 0, -2) = throws.NoSuchElementException
            object(true) = 1
            state(0, -2) = -1
            put(0, 0, -2) = -1
            put(0, 0, -3) = throws.NoSuchElementException
            state(0, -3) = throws.NoSuchElementException
            """);
        check.run("a REFERENCE to the object -1 - value: -200 to object 199",
            Lines.each(0, 198, "object(false) = #") + """
            put(0, 0, -200) = throws.NoSuchElementException
            state(0, -200) = throws.NoSuchElementException
            object(false) = 199
            put(0, 0, -200) = 0
            state(0, -200) = 0
            put(0, 0, -201) = throws.NoSuchElementException
            state(0, -201) = throws.NoSuchElementException
            get(0, 0) = -200
            stateOf(0) = -200
            """);
        check.refused("the least value refers to an object that never was", Lines.BUSY, Lines.NO_SUCH,
            "put(0, 5, " + Lines.LEAST + ")", "put(1, 5, " + Lines.LEAST + ")", "state(0, " + Lines.LEAST + ")",
            "put(0, 5, -" + Lines.GREATEST + ")", "state(9, -" + Lines.GREATEST + ")");
    }

    private void noGlobalRefersToALocal() {
        check.refused("No cell of a global object has one to a local object", Lines.BUSY, Lines.ILLEGAL,
            "put(1, 0, -1)", "put(1, 1, -1)", "put(1, 6, -1)", "put(1, 7, -1)", "put(1, 7, -3)", "put(1, 0, -4)");
        check.run("global to global, also to itself and to a newer one, local to both", """
            object(true) = 0
            object(false) = 1
            save() = 1
            object(true) = 2
            object(false) = 3
            put(0, 0, -1) = 0
            put(0, 7, -3) = 0
            put(2, 0, -1) = 0
            put(2, 7, -3) = 0
            put(1, 0, -1) = 0
            put(1, 1, -2) = 0
            put(1, 2, -3) = 0
            put(1, 3, -4) = 0
            put(3, 0, -2) = 0
            put(0, 0, -2) = throws.IllegalStateException
            put(0, 0, -4) = throws.IllegalStateException
            put(2, 0, -2) = throws.IllegalStateException
            put(2, 0, -4) = throws.IllegalStateException
            get(0, 0) = -1
            get(2, 0) = -1
            """);
    }

    private void parametersLikewise() {
        check.run("ten PARAMETERS 0 .. 9, 0 at first", Lines.each(0, 9, "stateOf(#) = 0") + """
            stateOf(-1) = throws.IndexOutOfBoundsException
            stateOf(10) = throws.IndexOutOfBoundsException
            """);
        check.run("likewise numbers or references, to local ones and to global ones",
            "object(false) = 0\n object(true) = 1\n"
            + Lines.each(0, 9, "state(#, -1) = 0\n state(#, -2) = -1\n stateOf(#) = -2"));
    }

    private void eightAndNineAreKept() {
        check.run("8 and 9 are KEPT, 7 is not", Lines.each(0, 9, "state(#, 1#) = 0") + "save() = 1\n"
            + Lines.each(0, 9, "state(#, 2#) = 1#") + """
            restore(1) = 1
            stateOf(0) = 10
            stateOf(6) = 16
            stateOf(7) = 17
            stateOf(8) = 28
            stateOf(9) = 29
            """);
        check.run("a parameter that is not kept may refer to a newer local object", """
            save() = 1
            object(false) = 0
            state(0, -1) = 0
            state(7, -1) = 0
            restore(1) = 1
            stateOf(0) = 0
            stateOf(7) = 0
            """);
    }

    private void numbersOfSaves() {
        check.run("SAVES have numbers 1, 2, .., as they are made", """
            restore(0) = -1
            restore(1) = -1
            save() = 1
            restore(0) = -1
            restore(2) = -1
            save() = 2
            restore(2) = 1
            restore(1) = 1
            save() = 3
            restore(2) = -2
            restore(4) = -1
            restore(3) = 1
            save() = 4
            """);
    }

    private void aSaveLivesUntilItIsRestored() {
        check.run("a save LIVES until it is restored: a refused restore does not end it", """
            save() = 1
            save() = 2
            object(false) = 0
            state(8, -1) = 0
            restore(1) = -3
            restore(2) = -4
            old(0) = 2
            used() = 24
            state(8, 0) = -1
            restore(2) = 1
            used() = 6
            restore(1) = 1
            used() = 0
            """);
        check.run("a save LIVES until it is restored: and no longer", """
            save() = 1
            object(true) = 0
            old(0) = 1
            restore(1) = 1
            old(0) = 0
            used() = 12
            restore(1) = -2
            """);
    }

    private void newerIfMadeBehind() {
        check.run("NEWER, if it was made behind it: an object", """
            object(false) = 0
            save() = 1
            object(false) = 1
            save() = 2
            object(false) = 2
            old(0) = 0
            old(1) = 1
            old(2) = 2
            restore(2) = 1
            get(1, 0) = 0
            get(2, 0) = throws.NoSuchElementException
            restore(1) = 1
            get(0, 0) = 0
            get(1, 0) = throws.NoSuchElementException
            """);
        check.run("NEWER, if it was made behind it: a pushed state", """
            state(0, 1) = 0
            push() = 1
            save() = 1
            state(0, 2) = 1
            push() = 1
            save() = 2
            state(0, 3) = 2
            push() = 1
            restore(2) = 1
            used() = 26
            pop() = 0
            stateOf(0) = 2
            restore(1) = 1
            used() = 10
            state(0, 9) = 1
            pop() = 0
            stateOf(0) = 1
            """);
    }

    private void eachCellGetsTheValueThatItHad() {
        check.run("the value that it had when the save was made: each cell, put often", """
            object(false) = 0
            object(false) = 1
            """ + Lines.each(0, 7, "put(0, #, 1#) = 0\n put(1, #, -2) = 0") + "save() = 1\n"
            + Lines.each(0, 7, "put(0, #, 2#) = 1#\n put(0, #, 3#) = 2#\n put(1, #, -1) = -2") + "restore(1) = 1\n"
            + Lines.each(0, 7, "get(0, #) = 1#\n get(1, #) = -2"));
        check.run("the value that it had when the save was made: of each save its own", """
            object(false) = 0
            put(0, 0, 1) = 0
            save() = 1
            put(0, 0, 2) = 1
            save() = 2
            save() = 3
            put(0, 0, 3) = 2
            put(0, 1, 3) = 0
            restore(3) = 1
            get(0, 0) = 2
            get(0, 1) = 0
            put(0, 0, 4) = 2
            restore(2) = 1
            get(0, 0) = 2
            restore(1) = 1
            get(0, 0) = 1
            """);
        check.run("a cell that was not put keeps its value, also one that was put before the save", """
            object(false) = 0
            save() = 1
            put(0, 0, 1) = 0
            save() = 2
            restore(2) = 1
            get(0, 0) = 1
            put(0, 0, 2) = 1
            restore(1) = 1
            get(0, 0) = 0
            put(0, 0, 3) = 0
            save() = 3
            restore(3) = 1
            get(0, 0) = 3
            """);
        check.run("each local object that is not newer: one made between two saves", """
            save() = 1
            object(false) = 0
            put(0, 7, 1) = 0
            save() = 2
            put(0, 7, 2) = 1
            restore(2) = 1
            get(0, 7) = 1
            """);
    }

    private void newerLocalsAreGone() {
        check.refused("local objects that are newer are gone, for each call", Lines.GAPS, Lines.NO_SUCH,
            "get(2, 0)", "get(4, 7)", "put(2, 0, 1)", "put(4, 0, 1)", "bytes(2, 0, -1)", "bytes(4, 0, 1)",
            "old(2)", "old(4)", "put(0, 0, -3)", "put(0, 0, -5)", "put(1, 0, -3)", "put(3, 0, -5)",
            "state(0, -3)", "state(9, -5)");
        check.run("local objects that are newer are gone, the first and the last, and no other", """
            object(false) = 0
            object(false) = 1
            save() = 1
            object(false) = 2
            object(false) = 3
            object(false) = 4
            used() = 66
            restore(1) = 1
            used() = 24
            get(0, 0) = 0
            get(1, 0) = 0
            get(2, 0) = throws.NoSuchElementException
            get(3, 0) = throws.NoSuchElementException
            get(4, 0) = throws.NoSuchElementException
            """);
        check.run("local objects that are newer are gone, made behind a later save too", """
            save() = 1
            object(false) = 0
            save() = 2
            restore(2) = 1
            object(false) = 1
            restore(1) = 1
            used() = 0
            get(0, 0) = throws.NoSuchElementException
            get(1, 0) = throws.NoSuchElementException
            """);
    }

    private void statesPushedBehindAreGone() {
        check.run("states that were pushed behind it are gone, those before are not", """
            state(0, 1) = 0
            push() = 1
            state(0, 2) = 1
            push() = 2
            save() = 1
            state(0, 3) = 2
            push() = 1
            push() = 2
            used() = 46
            restore(1) = 1
            used() = 20
            pop() = 1
            stateOf(0) = 2
            pop() = 0
            stateOf(0) = 1
            pop() = -1
            """);
        check.run("states that were pushed behind it are gone, where some were popped", """
            state(0, 1) = 0
            push() = 1
            save() = 1
            state(0, 2) = 1
            push() = 1
            pop() = 0
            pop() = -1
            state(0, 3) = 2
            push() = 1
            restore(1) = 1
            stateOf(0) = 1
            state(0, 9) = 1
            pop() = 0
            stateOf(0) = 1
            """);
    }

    private void theParametersAreAsTheyWere() {
        check.run("the parameters are as they were then, not as they were pushed", """
            state(0, 1) = 0
            state(7, 11) = 0
            push() = 1
            state(0, 2) = 1
            state(7, 12) = 11
            save() = 1
            state(0, 3) = 2
            push() = 1
            state(0, 4) = 3
            pop() = 0
            stateOf(0) = 3
            restore(1) = 1
            stateOf(0) = 2
            stateOf(7) = 12
            """);
        check.run("the parameters are as they were then, of each save its own", Lines.each(0, 9, "state(#, 1#) = 0")
            + "save() = 1\n" + Lines.each(0, 9, "state(#, 2#) = 1#") + "save() = 2\n"
            + Lines.each(0, 9, "state(#, 3#) = 2#") + "restore(2) = 1\n" + Lines.each(0, 7, "stateOf(#) = 2#")
            + Lines.each(8, 9, "stateOf(#) = 3#") + "restore(1) = 1\n" + Lines.each(0, 7, "stateOf(#) = 1#")
            + Lines.each(8, 9, "stateOf(#) = 3#"));
    }

    private void bytesStay() {
        check.run("Bytes stay as they are", "object(false) = 0\n object(true) = 1\n"
            + Lines.each(0, 7, "bytes(0, #, 1#) = 0\n bytes(1, #, 1#) = 0") + "save() = 1\n object(true) = 2\n"
            + Lines.each(0, 7, "put(0, #, 5) = 0\n bytes(0, #, 2#) = 1#\n bytes(1, #, 3#) = 1#\n bytes(2, #, 4#) = 0")
            + "restore(1) = 1\n"
            + Lines.each(0, 7, "bytes(0, #, -1) = 2#\n bytes(1, #, -1) = 3#\n bytes(2, #, -1) = 4#"));
    }

    private void globalObjectsStay() {
        check.run("so do global objects with their cells: older ones", "object(false) = 0\n object(true) = 1\n"
            + Lines.each(0, 7, "put(1, #, 1#) = 0") + "save() = 1\n" + Lines.each(0, 7, "put(1, #, 2#) = 1#")
            + "restore(1) = 1\n" + Lines.each(0, 7, "get(1, #) = 2#"));
        check.run("so do global objects with their cells: newer ones, between locals that go", """
            save() = 1
            object(false) = 0
            object(true) = 1
            object(false) = 2
            object(true) = 3
            object(false) = 4
            put(1, 0, -4) = 0
            put(3, 7, 9) = 0
            state(8, -4) = 0
            restore(1) = 1
            used() = 24
            get(0, 0) = throws.NoSuchElementException
            get(1, 0) = -4
            get(2, 0) = throws.NoSuchElementException
            get(3, 7) = 9
            get(4, 0) = throws.NoSuchElementException
            stateOf(8) = -4
            put(3, 7, -2) = 9
            old(3) = 0
            """);
    }

    private void aRowForALocalsCell() {
        check.run("A ROW is kept for a cell of a local object, not of a global one", """
            object(false) = 0
            object(true) = 1
            save() = 1
            put(1, 0, 1) = 0
            put(1, 7, -2) = 0
            used() = 30
            put(0, 0, 1) = 0
            used() = 33
            put(0, 7, 1) = 0
            used() = 36
            """);
        check.run("A ROW is kept when a value is put, not when it is got, nor for a byte, nor for a parameter", """
            object(false) = 0
            save() = 1
            get(0, 0) = 0
            bytes(0, 0, 1) = 0
            bytes(0, 0, -1) = 1
            state(0, -1) = 0
            stateOf(0) = -1
            old(0) = 0
            put(0, 8, 1) = throws.IndexOutOfBoundsException
            put(0, 0, -2) = throws.NoSuchElementException
            used() = 18
            """);
    }

    private void aRowForTheSameValueToo() {
        check.run("the same one, too", """
            object(false) = 0
            put(0, 1, 5) = 0
            save() = 1
            put(0, 0, 0) = 0
            used() = 21
            put(0, 1, 5) = 5
            used() = 24
            """);
    }

    private void aRowWhenASaveLives() {
        check.run("a save lives: none was made", "object(false) = 0\n put(0, 0, 1) = 0\n used() = 12\n");
        check.run("a save lives: none does any more", """
            object(false) = 0
            save() = 1
            put(0, 0, 1) = 0
            restore(1) = 1
            put(0, 0, 1) = 0
            put(0, 1, 1) = 0
            used() = 12
            save() = 2
            used() = 18
            """);
    }

    private void aRowWhenNotNewer() {
        check.run("the object is not newer than the latest one that lives", """
            object(false) = 0
            save() = 1
            object(false) = 1
            put(1, 0, 1) = 0
            used() = 30
            put(0, 0, 1) = 0
            used() = 33
            save() = 2
            object(false) = 2
            put(2, 0, 1) = 0
            used() = 51
            put(1, 0, 2) = 1
            used() = 54
            restore(2) = 1
            put(1, 1, 1) = 0
            used() = 33
            put(0, 1, 1) = 0
            used() = 36
            """);
    }

    private void oneRowForEachCell() {
        check.run("one for each cell of this kind since that save", """
            object(false) = 0
            object(false) = 1
            save() = 1
            put(0, 0, 1) = 0
            put(0, 0, 2) = 1
            put(0, 0, 2) = 2
            used() = 33
            put(0, 1, 1) = 0
            used() = 36
            put(1, 0, 1) = 0
            used() = 39
            put(0, 1, 3) = 1
            put(1, 0, 3) = 1
            used() = 39
            save() = 2
            used() = 45
            put(0, 0, 4) = 2
            used() = 48
            put(0, 0, 5) = 4
            used() = 48
            """);
        check.run("one for each cell, all of 25 objects", Lines.each(0, 24, "object(false) = #") + "save() = 1\n"
            + Lines.each(0, 24, "put(#, 0, 0) = 0\n put(#, 1, 0) = 0\n put(#, 2, 0) = 0\n put(#, 3, 0) = 0\n"
                + "put(#, 4, 0) = 0\n put(#, 5, 0) = 0\n put(#, 6, 0) = 0\n put(#, 7, 0) = 0")
            + "used() = 906\n" + Lines.each(0, 24, "put(#, 0, 1) = 0\n put(#, 7, 1) = 0") + "used() = 906\n");
    }

    private void rowsGoWithTheirSave() {
        check.run("They go with that save, those of an earlier one stay", """
            object(false) = 0
            save() = 1
            put(0, 0, 1) = 0
            save() = 2
            put(0, 0, 2) = 1
            put(0, 1, 2) = 0
            used() = 33
            restore(2) = 1
            used() = 21
            put(0, 0, 3) = 1
            used() = 21
            put(0, 1, 3) = 0
            used() = 24
            save() = 3
            used() = 30
            put(0, 0, 4) = 3
            used() = 33
            restore(3) = 1
            restore(1) = 1
            used() = 12
            """);
        check.run("They go with that save alone: a refused restore takes none", """
            object(false) = 0
            save() = 1
            put(0, 0, 1) = 0
            save() = 2
            put(0, 0, 2) = 1
            object(false) = 1
            state(9, -2) = 0
            restore(1) = -3
            restore(2) = -4
            used() = 42
            get(0, 0) = 2
            """);
    }

    private void usedWords() {
        check.run("USED are 12 words for each object, local or global, and none for one that is gone", """
            used() = 0
            save() = 1
            object(false) = 0
            used() = 18
            object(true) = 1
            used() = 30
            restore(1) = 1
            used() = 12
            """);
        check.run("3 for each row", "object(false) = 0\n save() = 1\n put(0, 0, 1) = 0\n used() = 21\n"
            + "put(0, 1, 1) = 0\n used() = 24\n");
        check.run("6 for each save that lives", "save() = 1\n used() = 6\n save() = 2\n used() = 12\n"
            + "restore(2) = 1\n used() = 6\n restore(1) = 1\n used() = 0\n");
        check.run("10 for each pushed state, before a save or behind it", "push() = 1\n used() = 10\n save() = 1\n"
            + "used() = 16\n push() = 1\n used() = 26\n pop() = 0\n used() = 16\n pop() = -1\n used() = 16\n"
            + "restore(1) = 1\n used() = 10\n pop() = 0\n used() = 0\n");
        check.run("all at their greatest number", Lines.each(0, 199, "object(false) = #")
            + Lines.each(1, 30, "push() = #") + Lines.each(1, 16, "save() = #\n put(#, 0, 1) = 0\n put(#, 0, 2) = 1")
            + "used() = " + (200 * 12 + 30 * 10 + 16 * 6 + 16 * 3) + "\n");
    }

    private void aThrowingCallChangesNothing() {
        String name = "A call that throws changes nothing";
        check.refused(name, Lines.BUSY, Lines.NO_SUCH,
            "put(4, 5, 1)", "put(0, 5, -5)", "put(2, 5, -5)", "put(1, 5, -5)",
            "state(0, -5)", "state(8, -5)", "bytes(4, 0, 1)", "get(4, 0)", "old(4)");
        check.refused(name, Lines.BUSY, Lines.OUT_OF_BOUNDS,
            "put(0, 8, 1)", "put(2, -1, 1)", "get(0, 8)", "state(10, 1)", "state(-1, 1)",
            "stateOf(10)", "bytes(0, 8, 1)", "bytes(0, 0, 256)", "bytes(0, 0, -2)");
        check.refused(name, Lines.BUSY, Lines.ILLEGAL, "put(1, 5, -1)", "put(1, 7, -3)");
        String full = "push() = 1\n save() = 1\n" + Lines.each(0, 199, "object(false) = #");
        check.refused(name, full, Lines.UNSUPPORTED, "object(false)", "object(true)");
        check.refused(name, Lines.SIXTEEN_SAVES, Lines.UNSUPPORTED, "save()");
        check.refused(name, Lines.BUSY + Lines.each(2, 28, "state(0, #) = -4\n push() = #\n state(0, -4) = #"),
            Lines.UNSUPPORTED, "push()");
    }

    private void theExceptionNamedFirst() {
        String name = "it is the one that it names first";
        check.refused(name, Lines.BUSY, Lines.NO_SUCH,
            "put(4, 8, 1)", "put(-1, -1, 1)", "put(0, 8, -5)", "put(0, -1, -5)", "put(1, 8, -5)",
            "put(4, 0, -1)", "put(4, 8, -1)", "put(4, 8, -5)", "get(4, 8)", "get(-1, -1)",
            "state(10, -5)", "state(-1, -5)", "bytes(4, 8, 1)", "bytes(4, 0, 256)", "bytes(-1, -1, -2)");
        check.refused(name, Lines.BUSY, Lines.OUT_OF_BOUNDS, "put(1, 8, -1)", "put(1, -1, -1)", "put(1, 8, -4)");
    }

    private void noSuchObject() {
        check.refused("there is no such object: it never was", Lines.GAPS, Lines.NO_SUCH, "get(5, 0)", "get(-1, 0)",
            "put(5, 0, 1)", "put(-1, 0, 1)", "bytes(5, 0, 1)", "bytes(-1, 0, 1)", "old(5)", "old(-1)");
        check.refused("there is no such object: it is gone", Lines.GAPS, Lines.NO_SUCH, "get(2, 0)", "get(4, 0)",
            "put(2, 0, 1)", "put(4, 0, 1)", "bytes(2, 0, 1)", "bytes(4, 0, 1)", "old(2)", "old(4)");
        check.refused("or none that a value refers to: it never was", Lines.GAPS, Lines.NO_SUCH,
            "put(0, 0, -6)", "put(1, 0, -6)", "state(0, -6)", "state(9, -6)");
        check.refused("or none that a value refers to: it is gone", Lines.GAPS, Lines.NO_SUCH,
            "put(0, 0, -3)", "put(1, 0, -3)", "put(0, 0, -5)", "put(3, 0, -5)", "state(0, -3)", "state(9, -5)");
    }
}
