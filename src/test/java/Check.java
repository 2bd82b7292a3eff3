/** Compares answers with those that are due, prints the wrong ones, and ends a test that has any. */
final class Check {
    private int wrong = 0;
    private String about = "";

    /** What the next calls are about; it is printed with the wrong ones. */
    void about(String what) {
        about = what;
    }

    void due(String call, long got, long want) {
        due(call, String.valueOf(got), String.valueOf(want));
    }

    void due(String call, String got, String want) {
        if (!got.equals(want)) {
            wrong++;
            System.out.println(about + ": " + call + " answered " + got + ", due is " + want);
        }
    }

    /** Reads a text as a room, by the last shelf. */
    static int read(ThreeTimes x, String text) {
        x.row(7, 0, text.length());
        for (int i = 0; i < text.length(); i++) {
            x.put(7, i, text.charAt(i));
        }
        return x.room(7);
    }

    /** A new object with the room of a text, and its last shelf empty again. */
    static ThreeTimes with(String text) {
        ThreeTimes x = new ThreeTimes();
        int statements = read(x, text);
        if (statements < 0) {
            throw new IllegalStateException(text + " answered " + statements);
        }
        x.keep(7, 0, 0);
        return x;
    }

    /** Shelf d gets a row of a sort with these elements. */
    static void fill(ThreeTimes x, int d, int sort, int... elements) {
        x.row(d, sort, elements.length);
        for (int i = 0; i < elements.length; i++) {
            x.put(d, i, elements[i]);
        }
    }

    void end() {
        if (wrong != 0) {
            System.out.println(wrong + " answers are not as due");
            System.exit(1);
        }
    }
}
