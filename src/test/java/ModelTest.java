import java.util.Random;
import java.util.function.IntSupplier;

/** Runs of calls picked with fixed seeds, on the class and on the model: all answers must be the same. */
final class ModelTest {
    private static final Check check = new Check();
    private static final int[] EDGES = {0, 1, -1, 2, 127, 128, 255, 256, -128, -129, 16511, 16512, 65535, 65536,
        1 << 30, -(1 << 30), -(1 << 30) - 1, Integer.MAX_VALUE, Integer.MIN_VALUE};
    private static final int[] HS = {1, 2, 3, 4, 16, 64, 128, 192, 240, 252, 254, 255, 256, 256, 256};

    private final Random random;
    private final BandMill mill = new BandMill();
    private final Model model = new Model();
    /** How wide numbers lie in this run: small ones repeat and pack, wide ones meet the edges. */
    private final int spread;
    private int calls = 0;

    private ModelTest(int seed) {
        random = new Random(seed);
        spread = new int[] {2, 5, 30, 300, 70000}[random.nextInt(5)];
        check.topic("seed " + seed);
    }

    public static void main(String[] args) {
        for (int seed = 0; seed < 1000 && check.clean(); seed++) {
            ModelTest test = new ModelTest(seed);
            test.makeWays();
            while (test.calls < 300 && check.clean()) {
                test.step();
            }
            test.compareAll();
        }
        for (int seed = 0; seed < 60 && check.clean(); seed++) {
            new ModelTest(100000 + seed).longRow();
        }
        for (int seed = 0; seed < 400 && check.clean(); seed++) {
            new ModelTest(200000 + seed).faults();
        }
        for (int seed = 0; seed < 20 && check.clean(); seed++) {
            new ModelTest(300000 + seed).longBestRun();
        }
        check.finish();
    }

    private void both(String call, IntSupplier mine, IntSupplier theirs) {
        calls++;
        check.due(call, answer(mine), answer(theirs));
    }

    private static String answer(IntSupplier action) {
        try {
            return Integer.toString(action.getAsInt());
        } catch (RuntimeException e) {
            return e.getClass().getName();
        }
    }

    private int someWay() {
        int ways = model.about(0);
        return random.nextInt(60) == 0 ? ways : random.nextInt(Math.max(1, ways));
    }

    private int someNumber() {
        if (random.nextInt(12) == 0) {
            return EDGES[random.nextInt(EDGES.length)];
        }
        if (random.nextInt(40) == 0) {
            return random.nextInt();
        }
        return random.nextInt(spread) - (random.nextInt(4) == 0 ? spread / 2 : 0);
    }

    private void coding() {
        int b = random.nextInt(80) == 0 ? random.nextInt(8) - 1 : 1 + random.nextInt(5);
        int h = random.nextInt(80) == 0 ? 257 * random.nextInt(2) : HS[random.nextInt(HS.length)];
        int s = random.nextInt(80) == 0 ? 3 : random.nextInt(3);
        int d = random.nextInt(80) == 0 ? 2 : random.nextInt(2);
        both("coding(" + b + ", " + h + ", " + s + ", " + d + ")", () -> mill.coding(b, h, s, d),
                () -> model.coding(b, h, s, d));
    }

    private void run() {
        int n = random.nextInt(60) == 0 ? 401 : random.nextInt(12);
        int first = someWay();
        int other = someWay();
        both("run(" + n + ", " + first + ", " + other + ")", () -> mill.run(n, first, other),
                () -> model.run(n, first, other));
    }

    private void popular() {
        int m = random.nextInt(60) == 0 ? 51 * random.nextInt(2) : 1 + random.nextInt(random.nextBoolean() ? 4 : 50);
        int f = someWay();
        int t = someWay();
        int o = someWay();
        both("popular(" + m + ", " + f + ", " + t + ", " + o + ")", () -> mill.popular(m, f, t, o),
                () -> model.popular(m, f, t, o));
    }

    private void makeWays() {
        int codings = 1 + random.nextInt(10);
        for (int i = 0; i < codings; i++) {
            coding();
        }
        int others = random.nextInt(12);
        for (int i = 0; i < others; i++) {
            if (random.nextBoolean()) {
                run();
            } else {
                popular();
            }
        }
    }

    private void step() {
        switch (random.nextInt(22)) {
            case 0 -> {
                if (random.nextInt(8) == 0) {
                    makeWays();
                }
            }
            case 1 -> {
                if (random.nextInt(3) == 0) {
                    both("clear()", mill::clear, model::clear);
                }
            }
            case 2, 3, 4, 5, 6 -> number();
            case 7, 8 -> way("cost", someWay());
            case 9, 10 -> way("pack", someWay());
            case 11, 12, 13 -> unpack(someWay());
            case 14 -> {
                int from = someWay();
                int to = someWay();
                both("best(" + from + ", " + to + ")", () -> mill.best(from, to), () -> model.best(from, to));
            }
            case 15 -> bestRun();
            case 16 -> {
                int four = random.nextBoolean() ? random.nextInt() : random.nextInt() & 0x03030303;
                both("feed(" + four + ")", () -> mill.feed(four), () -> model.feed(four));
            }
            case 17 -> end();
            case 18 -> seek();
            case 19 -> roundTrip();
            case 20 -> {
                int way = someWay();
                int what = random.nextInt(6);
                both("way(" + way + ", " + what + ")", () -> mill.way(way, what), () -> model.way(way, what));
            }
            default -> look();
        }
    }

    private void number() {
        int v = someNumber();
        both("number(" + v + ")", () -> mill.number(v), () -> model.number(v));
    }

    private void way(String what, int way) {
        if (what.equals("cost")) {
            both("cost(" + way + ")", () -> mill.cost(way), () -> model.cost(way));
        } else {
            both("pack(" + way + ")", () -> mill.pack(way), () -> model.pack(way));
        }
    }

    private void unpack(int way) {
        int n = random.nextInt(60) == 0 ? 401 : random.nextInt(random.nextBoolean() ? 4 : 30);
        unpack(way, n);
    }

    private void unpack(int way, int n) {
        both("unpack(" + way + ", " + n + ")", () -> mill.unpack(way, n), () -> model.unpack(way, n));
        both("place()", mill::place, model::place);
    }

    private void bestRun() {
        both("bestRun()", mill::bestRun, model::bestRun);
        for (int i = 0; i < 4; i++) {
            int what = i;
            both("chosen(" + i + ")", () -> mill.chosen(what), () -> model.chosen(what));
        }
    }

    private void end() {
        int n = model.about(2) - random.nextInt(6) + 1;
        both("end(" + n + ")", () -> {
            mill.end(n);
            return 0;
        }, () -> model.end(n));
    }

    private void seek() {
        int i = random.nextInt(model.about(2) + 3) - 1;
        both("seek(" + i + ")", () -> mill.seek(i), () -> model.seek(i));
    }

    private void look() {
        int i = random.nextInt(20) - 2;
        both("row(" + i + ")", () -> mill.row(i), () -> model.row(i));
        both("tape(" + i + ")", () -> mill.tape(i), () -> model.tape(i));
        both("about(" + i + ")", () -> mill.about(i), () -> model.about(i));
    }

    /** What a way wrote it must read back, whatever the model says. */
    private void roundTrip() {
        int way = someWay();
        if (way >= model.about(0)) {
            return;
        }
        int end = model.about(2);
        var before = Check.row(mill);
        way("pack", way);
        if (mill.about(2) == end && mill.cost(way) != 0) {
            return;
        }
        both("seek(" + end + ")", () -> mill.seek(end), () -> model.seek(end));
        unpack(way, before.size());
        check.due("row read back by way " + way, Check.row(mill), before);
    }

    private void compareAll() {
        for (int what = 0; what < 4; what++) {
            int asked = what;
            both("about(" + what + ")", () -> mill.about(asked), () -> model.about(asked));
        }
        for (int i = -1; i <= model.about(1); i++) {
            int asked = i;
            both("row(" + i + ")", () -> mill.row(asked), () -> model.row(asked));
        }
        for (int i = -1; i <= model.about(2); i++) {
            int asked = i;
            both("tape(" + i + ")", () -> mill.tape(asked), () -> model.tape(asked));
        }
    }

    private void longRow() {
        for (int i = 0; i < 6; i++) {
            coding();
        }
        for (int i = 0; i < 12; i++) {
            if (random.nextInt(3) == 0) {
                run();
            } else {
                popular();
            }
        }
        int size = random.nextBoolean() ? 400 : 350 + random.nextInt(50);
        int step = random.nextInt(3);
        for (int i = 0; i < size; i++) {
            int v = step == 0 ? someNumber() : i / step * random.nextInt(2) + random.nextInt(3);
            both("number(" + v + ")", () -> mill.number(v), () -> model.number(v));
        }
        for (int way = 0; way < model.about(0); way++) {
            way("cost", way);
            roundTrip();
        }
        compareAll();
    }

    /** The model tries all runs one by one, so few codings must do. */
    private void longBestRun() {
        for (int i = 0; i < 3; i++) {
            coding();
        }
        for (int i = 0; i < 100; i++) {
            number();
        }
        bestRun();
    }

    /** A row is packed, the tape spoiled in one place, and all ways try to read it. */
    private void faults() {
        makeWays();
        for (int i = 0; i < 10; i++) {
            number();
        }
        for (int way = 0; way < model.about(0); way++) {
            way("pack", way);
            end();
            int four = random.nextInt() & (random.nextBoolean() ? 0x01010101 : -1);
            both("feed(" + four + ")", () -> mill.feed(four), () -> model.feed(four));
            end();
            for (int reader = 0; reader < model.about(0); reader++) {
                both("seek(0)", () -> mill.seek(0), () -> model.seek(0));
                unpack(reader, 1 + random.nextInt(20));
            }
        }
        compareAll();
    }
}
