import java.util.ArrayDeque;
import java.util.ArrayList;
import java.util.Deque;
import java.util.HashMap;
import java.util.HashSet;
import java.util.List;
import java.util.Map;
import java.util.NoSuchElementException;
import java.util.Set;
import java.util.TreeMap;

/** The document's words once more, in the plainest form: each save copies all that there is. */
final class PlainModel {
    private record Thing(boolean global, long made, int[] cells, int[] bytes) {
    }

    private record Pushed(long made, int[] parameters) {
    }

    private record Save(int number, long made, Map<Integer, int[]> cells, int[] parameters, Set<List<Integer>> rows) {
    }

    private final Map<Integer, Thing> things = new TreeMap<>();
    private final List<Save> living = new ArrayList<>();
    private final Deque<Pushed> pushed = new ArrayDeque<>();
    private final int[] parameters = new int[10];
    private int nextThing = 0;
    private int nextSave = 1;
    private int deepest = 0;
    private long time = 0;

    int object(boolean global) {
        if (things.size() == 200) {
            throw new UnsupportedOperationException();
        }
        things.put(nextThing, new Thing(global, ++time, new int[8], new int[8]));
        return nextThing++;
    }

    int put(int object, int i, int v) {
        if (!things.containsKey(object) || !isValue(v)) {
            throw new NoSuchElementException();
        }
        bound(i, 0, 7);
        Thing thing = things.get(object);
        if (thing.global && v < 0 && !things.get(-1 - v).global) {
            throw new IllegalStateException();
        }
        Save latest = latest();
        if (!thing.global && latest != null && thing.made < latest.made) {
            latest.rows.add(List.of(object, i));
        }
        int before = thing.cells[i];
        thing.cells[i] = v;
        return before;
    }

    int get(int object, int i) {
        Thing thing = thing(object);
        bound(i, 0, 7);
        return thing.cells[i];
    }

    int save() {
        if (living.size() == 16) {
            throw new UnsupportedOperationException();
        }
        Map<Integer, int[]> cells = new HashMap<>();
        things.forEach((number, thing) -> cells.put(number, thing.cells.clone()));
        living.add(new Save(nextSave, ++time, cells, parameters.clone(), new HashSet<>()));
        deepest = Math.max(deepest, living.size());
        return nextSave++;
    }

    int restore(int number) {
        if (number < 1 || number >= nextSave) {
            return -1;
        }
        Save save = living.stream().filter(one -> one.number == number).findFirst().orElse(null);
        if (save == null) {
            return -2;
        }
        if (save != latest()) {
            return -3;
        }
        for (int what = 8; what < 10; what++) {
            Thing thing = parameters[what] < 0 ? things.get(-1 - parameters[what]) : null;
            if (thing != null && !thing.global && thing.made > save.made) {
                return -4;
            }
        }
        things.values().removeIf(thing -> !thing.global && thing.made > save.made);
        things.forEach((one, thing) -> {
            if (!thing.global) {
                System.arraycopy(save.cells.get(one), 0, thing.cells, 0, 8);
            }
        });
        pushed.removeIf(one -> one.made > save.made);
        System.arraycopy(save.parameters, 0, parameters, 0, 8);
        living.remove(save);
        return 1;
    }

    int state(int what, int v) {
        if (!isValue(v)) {
            throw new NoSuchElementException();
        }
        bound(what, 0, 9);
        int before = parameters[what];
        parameters[what] = v;
        return before;
    }

    int stateOf(int what) {
        bound(what, 0, 9);
        return parameters[what];
    }

    int push() {
        if (pushed.size() == 30) {
            throw new UnsupportedOperationException();
        }
        pushed.push(new Pushed(++time, parameters.clone()));
        return pushedBehindLatest();
    }

    int pop() {
        if (pushedBehindLatest() == 0) {
            return -1;
        }
        System.arraycopy(pushed.pop().parameters, 0, parameters, 0, 8);
        return pushedBehindLatest();
    }

    int bytes(int object, int i, int c) {
        Thing thing = thing(object);
        bound(i, 0, 7);
        bound(c, -1, 255);
        int before = thing.bytes[i];
        thing.bytes[i] = c == -1 ? before : c;
        return before;
    }

    int used() {
        int rows = living.stream().mapToInt(save -> save.rows.size()).sum();
        return 12 * things.size() + 3 * rows + 6 * living.size() + 10 * pushed.size();
    }

    int old(int object) {
        Thing thing = thing(object);
        return (int) living.stream().filter(save -> save.made < thing.made).count();
    }

    int deepest() {
        return deepest;
    }

    private Thing thing(int number) {
        Thing thing = things.get(number);
        if (thing == null) {
            throw new NoSuchElementException();
        }
        return thing;
    }

    private boolean isValue(int v) {
        return v >= 0 || things.containsKey(-1 - v);
    }

    private static void bound(int number, int least, int most) {
        if (number < least || number > most) {
            throw new IndexOutOfBoundsException();
        }
    }

    private Save latest() {
        return living.isEmpty() ? null : living.get(living.size() - 1);
    }

    private int pushedBehindLatest() {
        long since = latest() == null ? 0 : latest().made;
        return (int) pushed.stream().filter(one -> one.made > since).count();
    }
}
