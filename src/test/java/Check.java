import java.util.ArrayList;
import java.util.List;

/** Prints every answer that is not the one that is due, and ends with exit code 1 if there was one. */
final class Check {
    private int wrong = 0;
    private int wrongInTopic = 0;
    private int asked = 0;
    private String topic = "";

    void topic(String name) {
        topic = name;
        wrongInTopic = 0;
    }

    /** A test of one sentence of the document; what goes wrong in it is told with the promise and the sentence. */
    void sentence(String promise, String words, Runnable test) {
        sentence(promise, words, "", test);
    }

    void sentence(String promise, String words, String which, Runnable test) {
        topic("Promise " + promise + " \"" + words + "\" " + which);
        int before = asked;
        try {
            test.run();
        } catch (RuntimeException e) {
            complain("threw " + e);
        }
        if (asked == before) {
            complain("asked nothing");
        }
    }

    void due(String call, long got, long want) {
        asked++;
        if (got != want) {
            complain(call + " answered " + got + ", due is " + want);
        }
    }

    void due(String call, Object got, Object want) {
        asked++;
        if (!got.equals(want)) {
            complain(call + " answered " + got + ", due is " + want);
        }
    }

    /** The call must throw just this exception, and nothing of the mill may be another afterwards. */
    void refused(BandMill mill, String call, Class<? extends RuntimeException> kind, Runnable action) {
        asked++;
        List<Integer> before = state(mill);
        String got = "nothing";
        try {
            action.run();
        } catch (RuntimeException e) {
            got = e.getClass().getName();
        }
        if (!got.equals(kind.getName())) {
            complain(call + " threw " + got + ", due is " + kind.getName());
        }
        if (!state(mill).equals(before)) {
            complain(call + " threw and changed something");
        }
    }

    void badArgument(BandMill mill, String call, Runnable action) {
        refused(mill, call, IllegalArgumentException.class, action);
    }

    void badState(BandMill mill, String call, Runnable action) {
        refused(mill, call, IllegalStateException.class, action);
    }

    /** The unpack() must tell this fault at this place and change nothing else. */
    void fault(BandMill mill, int way, int n, int kind, int place) {
        String call = "unpack(" + way + ", " + n + ")";
        List<Integer> before = stateButPlace(mill);
        due(call, mill.unpack(way, n), -kind);
        due(call + " place()", mill.place(), place);
        due(call + " all else", stateButPlace(mill), before);
    }

    void rowIs(BandMill mill, int... numbers) {
        due("row", row(mill), list(numbers));
    }

    void tapeIs(BandMill mill, int... bytes) {
        due("tape", tape(mill), list(bytes));
    }

    void chosenIs(BandMill mill, int n, int first, int other) {
        due("chosen", list(mill.chosen(0), mill.chosen(1), mill.chosen(2)), list(n, first, other));
    }

    void complain(String text) {
        wrong++;
        wrongInTopic++;
        if (wrongInTopic <= 5) {
            System.out.println(topic + ": " + text);
        }
    }

    boolean clean() {
        return wrong == 0;
    }

    void finish() {
        System.out.println(asked + " answers looked at, " + wrong + " wrong");
        if (wrong != 0) {
            System.exit(1);
        }
    }

    /** All that the face tells of a mill. */
    static List<Integer> state(BandMill mill) {
        List<Integer> all = stateButPlace(mill);
        all.add(mill.place());
        return all;
    }

    private static List<Integer> stateButPlace(BandMill mill) {
        List<Integer> all = new ArrayList<>();
        for (int what = 0; what < 4; what++) {
            all.add(mill.about(what));
        }
        for (int way = 0; way < mill.about(0); way++) {
            for (int what = 0; what < 5; what++) {
                all.add(mill.way(way, what));
            }
        }
        for (int what = 0; what < 3; what++) {
            all.add(mill.chosen(what));
        }
        all.addAll(row(mill));
        all.addAll(tape(mill));
        return all;
    }

    static List<Integer> list(int... values) {
        List<Integer> all = new ArrayList<>();
        for (int v : values) {
            all.add(v);
        }
        return all;
    }

    static List<Integer> row(BandMill mill) {
        List<Integer> all = new ArrayList<>();
        for (int i = 0; i < mill.about(1); i++) {
            all.add(mill.row(i));
        }
        return all;
    }

    static List<Integer> tape(BandMill mill) {
        List<Integer> all = new ArrayList<>();
        for (int i = 0; i < mill.about(2); i++) {
            all.add(mill.tape(i));
        }
        return all;
    }

    static void fill(BandMill mill, int... numbers) {
        mill.clear();
        for (int v : numbers) {
            mill.number(v);
        }
    }

    /** A mill with a row of 400 numbers, ways 0 to 4 of 1 to 5 bytes, and this many bytes on the tape. */
    static BandMill filledTo(int bytes) {
        BandMill mill = new BandMill();
        for (int b = 1; b <= 5; b++) {
            mill.coding(b, 256, 0, 0);
        }
        for (int i = 0; i < 400; i++) {
            mill.number(i % 256);
        }
        for (int i = 0; i < 4; i++) {
            mill.pack(4);
        }
        mill.end(bytes);
        return mill;
    }

    /** The tape becomes these bytes, read from the first one on. */
    static void load(BandMill mill, int... bytes) {
        mill.end(0);
        int i = 0;
        while (i < bytes.length) {
            int four = 0;
            for (int k = 0; k < 4; k++) {
                four = four << 8 | (i + k < bytes.length ? bytes[i + k] & 255 : 0);
            }
            mill.feed(four);
            i += 4;
        }
        mill.end(bytes.length);
        mill.seek(0);
    }
}
