/** Runs of calls as text, a call and behind "=" its answer a line, from which tests put theirs together. */
final class Lines {
    static final String LEAST = String.valueOf(Integer.MIN_VALUE);
    static final String GREATEST = String.valueOf(Integer.MAX_VALUE);

    static final String NO_SUCH = "NoSuchElementException";
    static final String OUT_OF_BOUNDS = "IndexOutOfBoundsException";
    static final String ILLEGAL = "IllegalStateException";
    static final String UNSUPPORTED = "UnsupportedOperationException";

    /** Objects 0 local, 1 global, 2 local and newer than save 1, 3 local and newer than save 2; 3 pushed states. */
    static final String BUSY = """
        object(false) = 0
        object(true) = 1
        put(0, 0, 5) = 0
        put(0, 1, -2) = 0
        put(1, 7, 8) = 0
        bytes(0, 0, 65) = 0
        state(0, 1) = 0
        push() = 1
        state(0, 2) = 1
        save() = 1
        object(false) = 2
        put(0, 0, 6) = 5
        put(2, 2, -1) = 0
        state(0, 3) = 2
        push() = 1
        state(0, 4) = 3
        save() = 2
        object(false) = 3
        put(2, 3, -4) = 0
        put(0, 0, 7) = 6
        state(0, 5) = 4
        push() = 1
        state(8, -2) = 0
        state(0, -4) = 5
        """;

    /** Objects 0 local, 1 global, 3 global; 2 and 4 were local and are gone, 5 never was; save 1 lives. */
    static final String GAPS = """
        object(false) = 0
        object(true) = 1
        put(0, 0, 5) = 0
        save() = 1
        put(0, 0, 6) = 5
        state(0, 7) = 0
        push() = 1
        save() = 2
        object(false) = 2
        object(true) = 3
        object(false) = 4
        put(2, 0, 1) = 0
        bytes(4, 0, 1) = 0
        restore(2) = 1
        """;

    /** The 16 saves that may live, with changes behind each, and of every kind behind the last. */
    static final String SIXTEEN_SAVES = "object(false) = 0\n push() = 1\n"
        + each(1, 16, "save() = #\n put(0, 0, #) = @\n state(0, #) = @\n push() = 1") + "object(false) = 1\n";

    private Lines() {
    }

    /** The line once for each number first .. last, "#" being the number and "@" the one before it. */
    static String each(int first, int last, String line) {
        StringBuilder lines = new StringBuilder();
        for (int number = first; number <= last; number++) {
            lines.append(withNumber(line, number));
        }
        return lines.toString();
    }

    /** The line once for each number last .. first, going down. */
    static String eachDown(int last, int first, String line) {
        StringBuilder lines = new StringBuilder();
        for (int number = last; number >= first; number--) {
            lines.append(withNumber(line, number));
        }
        return lines.toString();
    }

    private static String withNumber(String line, int number) {
        return line.replace("#", String.valueOf(number)).replace("@", String.valueOf(number - 1)) + "\n";
    }
}
