import java.util.ArrayList;
import java.util.List;

/** Prints every answer that is not the one that is due, and ends with exit code 1 if there was one. */
final class Check {
    private int wrong = 0;
    private int asked = 0;
    private String topic = "";

    void topic(String name) {
        topic = name;
    }

    void due(String call, long got, long want) {
        asked++;
        if (got != want) {
            complain(call + " answered " + got + ", due is " + want);
        }
    }

    void due(String call, Object got, Object want) {
        asked++;
        if (!got.equals(want)) {
            complain(call + " answered " + got + ", due is " + want);
        }
    }

    /** The call must throw just this exception, and nothing of the mill may be another afterwards. */
    void refused(BandMill mill, String call, Class<? extends RuntimeException> kind, Runnable action) {
        asked++;
        List<Integer> before = state(mill);
        String got = "nothing";
        try {
            action.run();
        } catch (RuntimeException e) {
            got = e.getClass().getName();
        }
        if (!got.equals(kind.getName())) {
            complain(call + " threw " + got + ", due is " + kind.getName());
        }
        if (!state(mill).equals(before)) {
            complain(call + " threw and changed something");
        }
    }

    void badArgument(BandMill mill, String call, Runnable action) {
        refused(mill, call, IllegalArgumentException.class, action);
    }

    void badState(BandMill mill, String call, Runnable action) {
        refused(mill, call, IllegalStateException.class, action);
    }

    void complain(String text) {
        wrong++;
        if (wrong <= 50) {
            System.out.println(topic + ": " + text);
        }
    }

    boolean clean() {
        return wrong == 0;
    }

    void finish() {
        System.out.println(asked + " answers looked at, " + wrong + " wrong");
        if (wrong != 0) {
            System.exit(1);
        }
    }

    /** All that the face tells of a mill. */
    static List<Integer> state(BandMill mill) {
        List<Integer> all = new ArrayList<>();
        for (int what = 0; what < 4; what++) {
            all.add(mill.about(what));
        }
        for (int way = 0; way < mill.about(0); way++) {
            for (int what = 0; what < 5; what++) {
                all.add(mill.way(way, what));
            }
        }
        for (int what = 0; what < 3; what++) {
            all.add(mill.chosen(what));
        }
        all.add(mill.place());
        all.addAll(row(mill));
        all.addAll(tape(mill));
        return all;
    }

    static List<Integer> row(BandMill mill) {
        List<Integer> all = new ArrayList<>();
        for (int i = 0; i < mill.about(1); i++) {
            all.add(mill.row(i));
        }
        return all;
    }

    static List<Integer> tape(BandMill mill) {
        List<Integer> all = new ArrayList<>();
        for (int i = 0; i < mill.about(2); i++) {
            all.add(mill.tape(i));
        }
        return all;
    }

    static void fill(BandMill mill, int... numbers) {
        mill.clear();
        for (int v : numbers) {
            mill.number(v);
        }
    }

    /** The tape becomes these bytes, read from the first one on. */
    static void load(BandMill mill, int... bytes) {
        mill.end(0);
        int i = 0;
        while (i < bytes.length) {
            int four = 0;
            for (int k = 0; k < 4; k++) {
                four = four << 8 | (i + k < bytes.length ? bytes[i + k] & 255 : 0);
            }
            mill.feed(four);
            i += 4;
        }
        mill.end(bytes.length);
        mill.seek(0);
    }
}
