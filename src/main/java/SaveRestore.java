import java.util.NoSuchElementException;

/**
 * The memory and the state of a page machine. Its document numbers the promises that it keeps.
 */
public final class SaveRestore {
    private static final int MOST_OBJECTS = 200;
    private static final int CELLS = 8;
    private static final int BYTES = 8;
    private static final int GREATEST_BYTE = 255;
    private static final int BYTE_STAYS = -1;
    private static final int PARAMETERS = 10;
    private static final int FIRST_KEPT_PARAMETER = 8;
    private static final int MOST_SAVES = 16;
    private static final int MOST_PUSHED = 30;

    private static final int WORDS_OF_OBJECT = 12;
    private static final int WORDS_OF_ROW = 3;
    private static final int WORDS_OF_SAVE = 6;
    private static final int WORDS_OF_PUSHED = 10;

    private static final int RESTORED = 1;
    private static final int NEVER_MADE = -1;
    private static final int LIVES_NO_MORE = -2;
    private static final int LATER_ONE_LIVES = -3;
    private static final int KEPT_REFERS_TO_NEWER = -4;
    private static final int NOTHING_TO_POP = -1;

    /** The objects there are, in the order of their numbers, at places 0 .. thingCount - 1. */
    private final Thing[] things = new Thing[MOST_OBJECTS];
    private int thingCount = 0;
    private int thingsMade = 0;

    /** The saves that live are those at places 0 .. living - 1; the others wait for their next use. */
    private final Save[] saves = new Save[MOST_SAVES];
    private int living = 0;
    private int savesMade = 0;
    private int mostLiving = 0;

    private final int[] parameters = new int[PARAMETERS];
    private final int[][] pushed = new int[MOST_PUSHED][FIRST_KEPT_PARAMETER];
    private int pushedCount = 0;

    public SaveRestore() {
        for (int place = 0; place < MOST_SAVES; place++) {
            saves[place] = new Save();
        }
    }

    public int object(boolean global) throws UnsupportedOperationException {
        if (thingCount >= MOST_OBJECTS) {
            throw new UnsupportedOperationException("there are 200 objects");
        }
        Thing thing = new Thing(thingsMade, global);
        things[thingCount] = thing;
        thingCount++;
        thingsMade++;
        return thing.number;
    }

    public int put(int object, int i, int v)
            throws NoSuchElementException, IndexOutOfBoundsException, IllegalStateException {
        Thing thing = existing(object);
        checkValue(v);
        checkIndex(i, CELLS);
        if (thing.global && refersToLocal(v)) {
            throw new IllegalStateException("a global object's cell can't refer to a local object");
        }
        keepRow(thing, i);
        int before = thing.cells[i];
        thing.cells[i] = v;
        return before;
    }

    public int get(int object, int i) throws NoSuchElementException, IndexOutOfBoundsException {
        Thing thing = existing(object);
        checkIndex(i, CELLS);
        return thing.cells[i];
    }

    public int save() throws UnsupportedOperationException {
        if (living >= MOST_SAVES) {
            throw new UnsupportedOperationException("16 saves live");
        }
        savesMade++;
        Save made = saves[living];
        made.number = savesMade;
        made.firstNewerThing = thingsMade;
        made.pushedBefore = pushedCount;
        System.arraycopy(parameters, 0, made.parameters, 0, FIRST_KEPT_PARAMETER);
        living++;
        mostLiving = Math.max(mostLiving, living);
        return savesMade;
    }

    public int restore(int save) {
        if (save < 1 || save > savesMade) {
            return NEVER_MADE;
        }
        int place = placeOfLiving(save);
        if (place < 0) {
            return LIVES_NO_MORE;
        }
        if (place < living - 1) {
            return LATER_ONE_LIVES;
        }
        if (keptRefersToNewer(saves[place])) {
            return KEPT_REFERS_TO_NEWER;
        }
        undoSince(saves[place]);
        living--;
        return RESTORED;
    }

    public int state(int what, int v) throws NoSuchElementException, IndexOutOfBoundsException {
        checkValue(v);
        checkIndex(what, PARAMETERS);
        int before = parameters[what];
        parameters[what] = v;
        return before;
    }

    public int stateOf(int what) throws IndexOutOfBoundsException {
        checkIndex(what, PARAMETERS);
        return parameters[what];
    }

    public int push() throws UnsupportedOperationException {
        if (pushedCount >= MOST_PUSHED) {
            throw new UnsupportedOperationException("30 states are pushed");
        }
        System.arraycopy(parameters, 0, pushed[pushedCount], 0, FIRST_KEPT_PARAMETER);
        pushedCount++;
        return pushedSinceLatestSave();
    }

    public int pop() {
        if (pushedSinceLatestSave() <= 0) {
            return NOTHING_TO_POP;
        }
        pushedCount--;
        System.arraycopy(pushed[pushedCount], 0, parameters, 0, FIRST_KEPT_PARAMETER);
        return pushedSinceLatestSave();
    }

    public int bytes(int object, int i, int c) throws NoSuchElementException, IndexOutOfBoundsException {
        Thing thing = existing(object);
        checkIndex(i, BYTES);
        if (c < BYTE_STAYS || c > GREATEST_BYTE) {
            throw new IndexOutOfBoundsException("a byte is 0 .. 255, or -1 to stay");
        }
        int before = thing.bytes[i];
        if (c != BYTE_STAYS) {
            thing.bytes[i] = c;
        }
        return before;
    }

    public int used() {
        int rows = 0;
        for (int place = 0; place < living; place++) {
            rows += saves[place].rowCount;
        }
        return WORDS_OF_OBJECT * thingCount + WORDS_OF_ROW * rows
                + WORDS_OF_SAVE * living + WORDS_OF_PUSHED * pushedCount;
    }

    public int old(int object) throws NoSuchElementException {
        Thing thing = existing(object);
        int before = 0;
        for (int place = 0; place < living; place++) {
            if (thing.isNewerThan(saves[place])) {
                before++;
            }
        }
        return before;
    }

    public int deepest() {
        return mostLiving;
    }

    private Thing existing(int number) {
        Thing thing = find(number);
        if (thing == null) {
            throw new NoSuchElementException("there is no such object");
        }
        return thing;
    }

    /** The object of a number, or null. */
    private Thing find(int number) {
        // Numbers grow from place to place, so no object stands at a place beyond its number.
        for (int place = Math.min(number, thingCount - 1); place >= 0; place--) {
            if (things[place].number == number) {
                return things[place];
            }
        }
        return null;
    }

    /** The object that a value refers to, or null. */
    private Thing referredTo(int value) {
        return value < 0 ? find(-1 - value) : null;
    }

    private boolean refersToLocal(int value) {
        Thing thing = referredTo(value);
        return thing != null && !thing.global;
    }

    private void checkValue(int value) {
        if (value < 0 && referredTo(value) == null) {
            throw new NoSuchElementException("there is no object that the value refers to");
        }
    }

    private static void checkIndex(int index, int count) {
        if (index < 0 || index >= count) {
            throw new IndexOutOfBoundsException("a number is not within its bounds");
        }
    }

    /** Keeps what a cell holds, where the latest save needs it and does not have it yet. */
    private void keepRow(Thing thing, int cell) {
        if (living <= 0 || thing.global) {
            return;
        }
        Save latest = saves[living - 1];
        if (thing.isNewerThan(latest) || thing.rowOwners[cell] == latest.number) {
            return;
        }
        latest.rows = new Row(thing, cell, latest.rows);
        latest.rowCount++;
        thing.rowOwners[cell] = latest.number;
    }

    /** The place of a save among those that live, or -1. */
    private int placeOfLiving(int number) {
        for (int place = living - 1; place >= 0; place--) {
            if (saves[place].number == number) {
                return place;
            }
        }
        return -1;
    }

    private boolean keptRefersToNewer(Save save) {
        for (int what = FIRST_KEPT_PARAMETER; what < PARAMETERS; what++) {
            Thing thing = referredTo(parameters[what]);
            if (thing != null && !thing.global && thing.isNewerThan(save)) {
                return true;
            }
        }
        return false;
    }

    private void undoSince(Save save) {
        for (Row row = save.rows; row != null; row = row.next) {
            row.putBack();
        }
        save.rows = null;
        save.rowCount = 0;
        dropLocalsNewerThan(save);
        // No state from before the save can have been popped since, so all of them still stand.
        pushedCount = save.pushedBefore;
        System.arraycopy(save.parameters, 0, parameters, 0, FIRST_KEPT_PARAMETER);
    }

    private void dropLocalsNewerThan(Save save) {
        int staying = 0;
        for (int place = 0; place < thingCount; place++) {
            Thing thing = things[place];
            if (thing.global || !thing.isNewerThan(save)) {
                things[staying] = thing;
                staying++;
            }
        }
        thingCount = staying;
    }

    private int pushedSinceLatestSave() {
        return living > 0 ? pushedCount - saves[living - 1].pushedBefore : pushedCount;
    }

    /** An object of the page machine. */
    private static final class Thing {
        final int number;
        final boolean global;
        final int[] cells = new int[CELLS];
        final int[] bytes = new int[BYTES];
        /** For each cell the number of the latest living save that has a row for it, 0 for none. */
        final int[] rowOwners = new int[CELLS];

        Thing(int number, boolean global) {
            this.number = number;
            this.global = global;
        }

        boolean isNewerThan(Save save) {
            return number >= save.firstNewerThing;
        }
    }

    private static final class Save {
        int number = 0;
        int firstNewerThing = 0;
        int pushedBefore = 0;
        final int[] parameters = new int[FIRST_KEPT_PARAMETER];
        /** The first of a chain. */
        Row rows = null;
        int rowCount = 0;
    }

    /** What a cell held when a save was made. */
    private static final class Row {
        final Thing thing;
        final int cell;
        final int value;
        /** An earlier save may have a row for the cell too, and is the latest again when this row goes. */
        final int ownerBefore;
        final Row next;

        Row(Thing thing, int cell, Row next) {
            this.thing = thing;
            this.cell = cell;
            this.value = thing.cells[cell];
            this.ownerBefore = thing.rowOwners[cell];
            this.next = next;
        }

        void putBack() {
            thing.cells[cell] = value;
            thing.rowOwners[cell] = ownerBefore;
        }
    }
}
