import java.util.List;

/** Each promise of the document: ordinary inputs, the edges it names, wrong inputs. */
final class PromisesTest {
    private static final int MIN = Integer.MIN_VALUE;
    private static final int MAX = Integer.MAX_VALUE;
    private static final int[] FAR = {MIN, MIN + 1, -1000, MAX - 1, MAX};
    private static final Check check = new Check();

    private PromisesTest() {
    }

    public static void main(String[] args) {
        aNewObject();
        coding();
        run();
        runDepth();
        popular();
        number();
        clearAndRow();
        codes();
        numbersBySign();
        differences();
        costOfRuns();
        costOfPopular();
        favouritesOrder();
        favouritesMost();
        favouritesOfAnyNumbers();
        nestedFirstWay();
        cannotWrite();
        pack();
        packAtTheEdge();
        packThatCannotOnFullTape();
        unpack();
        unpackOfRun();
        unpackOfPopular();
        tapeEnds();
        codeThatIsNoNumber();
        wrongTokens();
        faultOrder();
        place();
        best();
        bestRun();
        bestRunTies();
        bestRunDifferences();
        chosen();
        feed();
        end();
        seek();
        tape();
        way();
        about();
        check.finish();
    }

    private static List<Integer> list(int... values) {
        return Check.list(values);
    }

    private static void aNewObject() {
        check.topic("1 a new object");
        BandMill x = new BandMill();
        check.due("about", list(x.about(0), x.about(1), x.about(2), x.about(3)), list(0, 0, 0, 0));
        check.due("row(0)", x.row(0), 0);
        check.due("tape(0)", x.tape(0), -1);
        check.due("place()", x.place(), -1);
        check.due("chosen", list(x.chosen(0), x.chosen(1), x.chosen(2)), list(-1, -1, -1));
        check.due("NONE", BandMill.NONE, -1);
        check.due("clear()", x.clear(), 0);
        check.due("bestRun()", x.bestRun(), -1);
        BandMill y = new BandMill();
        x.coding(1, 256, 0, 0);
        x.number(3);
        x.pack(0);
        check.due("another object", list(y.about(0), y.about(1), y.about(2), y.row(0), y.tape(0)),
                list(0, 0, 0, 0, -1));
    }

    private static void coding() {
        check.topic("2 coding");
        BandMill x = new BandMill();
        int[][] wrong = {{0, 1, 0, 0}, {6, 1, 0, 0}, {1, 0, 0, 0}, {1, 257, 0, 0}, {1, 1, -1, 0}, {1, 1, 3, 0},
            {1, 1, 0, -1}, {1, 1, 0, 2}, {-1, 1, 0, 0}, {1, -1, 0, 0}};
        for (int[] w : wrong) {
            check.badArgument(x, "coding" + list(w), () -> x.coding(w[0], w[1], w[2], w[3]));
        }
        for (int far : FAR) {
            check.badArgument(x, "b " + far, () -> x.coding(far, 1, 0, 0));
            check.badArgument(x, "h " + far, () -> x.coding(1, far, 0, 0));
            check.badArgument(x, "s " + far, () -> x.coding(1, 1, far, 0));
            check.badArgument(x, "d " + far, () -> x.coding(1, 1, 0, far));
        }
        check.due("coding(1, 1, 0, 0)", x.coding(1, 1, 0, 0), 0);
        check.due("coding(5, 256, 2, 1)", x.coding(5, 256, 2, 1), 1);
        check.due("coding(1, 1, 0, 0) again", x.coding(1, 1, 0, 0), 2);
        for (int i = 3; i < 40; i++) {
            check.due("coding number " + i, x.coding(3, i, 1, 1), i);
        }
        check.badState(x, "coding 40", () -> x.coding(1, 1, 0, 0));
        check.badArgument(x, "a wrong coding when there are 40", () -> x.coding(0, 1, 0, 0));
    }

    private static void run() {
        check.topic("3 run");
        BandMill x = new BandMill();
        check.badArgument(x, "run without ways", () -> x.run(0, 0, 0));
        x.coding(1, 256, 0, 0);
        x.coding(2, 128, 0, 0);
        check.due("run(0, 0, 1)", x.run(0, 0, 1), 2);
        check.due("run(400, 2, 2)", x.run(400, 2, 2), 3);
        int[][] wrong = {{-1, 0, 0}, {401, 0, 0}, {0, -1, 0}, {0, 4, 0}, {0, 0, -1}, {0, 0, 4}, {MIN, 0, 0},
            {MAX, 0, 0}, {0, MIN, 0}, {0, MAX, 0}, {0, 0, MIN}, {0, 0, MAX}};
        for (int[] w : wrong) {
            check.badArgument(x, "run" + list(w), () -> x.run(w[0], w[1], w[2]));
        }
        for (int i = 4; i < 40; i++) {
            check.due("run number " + i, x.run(i, 0, 1), i);
        }
        check.badState(x, "run 40", () -> x.run(1, 0, 1));
        check.badArgument(x, "a wrong n when there are 40", () -> x.run(401, 0, 1));
        check.badArgument(x, "a wrong way when there are 40", () -> x.run(1, 0, 40));
        check.badState(x, "popular 40", () -> x.popular(1, 0, 0, 0));
        check.badArgument(x, "a wrong m when there are 40", () -> x.popular(0, 0, 0, 0));
        check.badArgument(x, "a wrong way when there are 40", () -> x.popular(1, 0, 0, 40));
    }

    private static void runDepth() {
        check.topic("3, 4 depth");
        BandMill x = new BandMill();
        x.coding(1, 256, 0, 0);
        for (int i = 0; i < 4; i++) {
            check.due("a way of depth " + (i + 1), i % 2 == 0 ? x.run(1, 0, i) : x.popular(1, i, 0, 0), i + 1);
            check.due("its depth", x.way(i + 1, 4), i + 1);
        }
        check.badState(x, "run(1, 4, 0)", () -> x.run(1, 4, 0));
        check.badState(x, "run(1, 0, 4)", () -> x.run(1, 0, 4));
        check.badState(x, "popular(1, 4, 0, 0)", () -> x.popular(1, 4, 0, 0));
        check.badState(x, "popular(1, 0, 4, 0)", () -> x.popular(1, 0, 4, 0));
        check.badState(x, "popular(1, 0, 0, 4)", () -> x.popular(1, 0, 0, 4));
        check.badArgument(x, "run(401, 4, 0)", () -> x.run(401, 4, 0));
        check.badArgument(x, "popular(51, 4, 0, 0)", () -> x.popular(51, 4, 0, 0));
        check.badArgument(x, "run(1, 4, 5)", () -> x.run(1, 4, 5));
        check.badArgument(x, "popular(1, 4, 0, 5)", () -> x.popular(1, 4, 0, 5));
        check.due("run(1, 3, 1)", x.run(1, 3, 1), 5);
        check.due("its depth", x.way(5, 4), 4);
        check.due("popular(1, 0, 3, 1)", x.popular(1, 0, 3, 1), 6);
        check.due("its depth", x.way(6, 4), 4);
        check.due("popular(1, 0, 1, 3)", x.popular(1, 0, 1, 3), 7);
        check.due("its depth", x.way(7, 4), 4);
        check.due("run(1, 1, 2)", x.run(1, 1, 2), 8);
        check.due("its depth", x.way(8, 4), 3);
    }

    private static void popular() {
        check.topic("4 popular");
        BandMill x = new BandMill();
        check.badArgument(x, "popular without ways", () -> x.popular(1, 0, 0, 0));
        x.coding(1, 256, 0, 0);
        int[][] wrong = {{0, 0, 0, 0}, {51, 0, 0, 0}, {-1, 0, 0, 0}, {1, 1, 0, 0}, {1, 0, 1, 0}, {1, 0, 0, 1},
            {1, -1, 0, 0}, {1, 0, -1, 0}, {1, 0, 0, -1}, {MIN, 0, 0, 0}, {MAX, 0, 0, 0}, {1, MAX, 0, 0},
            {1, 0, MIN, 0}, {1, 0, 0, MAX}};
        for (int[] w : wrong) {
            check.badArgument(x, "popular" + list(w), () -> x.popular(w[0], w[1], w[2], w[3]));
        }
        check.due("popular(1, 0, 0, 0)", x.popular(1, 0, 0, 0), 1);
        check.due("popular(50, 0, 0, 1)", x.popular(50, 0, 0, 1), 2);
        for (int i = 3; i < 40; i++) {
            x.popular(i, 0, 0, 0);
        }
        check.badState(x, "popular 40", () -> x.popular(1, 0, 0, 0));
    }

    private static void number() {
        check.topic("5 number");
        BandMill x = new BandMill();
        int[] some = {0, MIN, MAX, -1, 7};
        for (int i = 0; i < 400; i++) {
            check.due("number " + i, x.number(some[i % 5] + i), i + 1);
        }
        for (int i = 0; i < 400; i++) {
            check.due("row(" + i + ")", x.row(i), some[i % 5] + i);
        }
        check.badState(x, "number 401", () -> x.number(0));
        check.due("clear()", x.clear(), 400);
        check.due("number(5)", x.number(5), 1);
    }

    private static void clearAndRow() {
        check.topic("6 clear, 7 row");
        BandMill x = new BandMill();
        Check.fill(x, 4, -5, 6);
        check.due("row", list(x.row(-1), x.row(0), x.row(1), x.row(2), x.row(3), x.row(MIN), x.row(MAX)),
                list(0, 4, -5, 6, 0, 0, 0));
        check.due("clear()", x.clear(), 3);
        check.due("clear() again", x.clear(), 0);
        check.due("row behind clear()", list(x.row(0), x.row(1), x.row(2)), list(0, 0, 0));
        x.number(9);
        check.due("row", list(x.row(0), x.row(1)), list(9, 0));
        check.due("about(1)", x.about(1), 1);
    }

    /** The bytes that a coding of one number puts on a new tape; an empty list if it can't. */
    private static List<Integer> bytesOf(int b, int h, int s, int v) {
        BandMill x = new BandMill();
        x.coding(b, h, s, 0);
        x.number(v);
        int bytes = x.pack(0);
        check.due("cost and pack of " + v, x.cost(0), bytes);
        return bytes == BandMill.NONE ? list() : Check.tape(x);
    }

    private static void codes() {
        check.topic("8, 9 codes");
        check.due("1 byte 255", bytesOf(1, 256, 0, 255), list(255));
        check.due("1 byte 256", bytesOf(1, 256, 0, 256), list());
        check.due("1 byte, H 1, 255", bytesOf(1, 1, 0, 255), list(255));
        check.due("1 byte, H 128, 200", bytesOf(1, 128, 0, 200), list(200));
        check.due("H 128, 127", bytesOf(2, 128, 0, 127), list(127));
        check.due("H 128, 128", bytesOf(2, 128, 0, 128), list(128, 0));
        check.due("H 128, 255", bytesOf(2, 128, 0, 255), list(255, 0));
        check.due("H 128, 256", bytesOf(2, 128, 0, 256), list(128, 1));
        check.due("H 128, the greatest", bytesOf(2, 128, 0, 255 + 255 * 128), list(255, 255));
        check.due("H 128, beyond it", bytesOf(2, 128, 0, 256 + 255 * 128), list());
        check.due("H 1, 254", bytesOf(3, 1, 0, 254), list(254));
        check.due("H 1, 255", bytesOf(3, 1, 0, 255), list(255, 0));
        check.due("H 1, 510", bytesOf(3, 1, 0, 510), list(255, 255, 0));
        check.due("H 1, 765", bytesOf(3, 1, 0, 765), list(255, 255, 255));
        check.due("H 1, 766", bytesOf(3, 1, 0, 766), list());
        check.due("H 256, 0", bytesOf(4, 256, 0, 0), list(0, 0, 0, 0));
        check.due("H 256, 2^31 - 1", bytesOf(4, 256, 0, MAX), list(255, 255, 255, 127));
        check.due("H 256, 5 bytes", bytesOf(5, 256, 0, MAX), list(255, 255, 255, 127, 0));
        check.due("H 255, 0", bytesOf(5, 255, 0, 0), list(0));
        check.due("H 255, 1", bytesOf(5, 255, 0, 1), list(1, 0));
        check.due("H 64, 191", bytesOf(5, 64, 0, 191), list(191));
        check.due("H 64, 192", bytesOf(5, 64, 0, 192), list(192, 0));
        check.due("H 64, 255 and 192 times 64", bytesOf(5, 64, 0, 255 + 192 * 64), list(255, 192, 0));
        check.due("H 4, the greatest", bytesOf(5, 4, 0, 255 * 341), list(255, 255, 255, 255, 255));
        check.due("H 4, beyond it", bytesOf(5, 4, 0, 255 * 341 + 1), list());
    }

    private static void numbersBySign() {
        check.topic("8, 9 numbers by S");
        check.due("S 0, -1", bytesOf(5, 256, 0, -1), list());
        check.due("S 1, 0", bytesOf(1, 256, 1, 0), list(0));
        check.due("S 1, -1", bytesOf(1, 256, 1, -1), list(1));
        check.due("S 1, 1", bytesOf(1, 256, 1, 1), list(2));
        check.due("S 1, 127", bytesOf(1, 256, 1, 127), list(254));
        check.due("S 1, -128", bytesOf(1, 256, 1, -128), list(255));
        check.due("S 1, 128", bytesOf(1, 256, 1, 128), list());
        check.due("S 1, 2^31 - 1", bytesOf(4, 256, 1, MAX), list(254, 255, 255, 255));
        check.due("S 1, -2^31", bytesOf(4, 256, 1, MIN), list(255, 255, 255, 255));
        check.due("S 2, 0", bytesOf(1, 256, 2, 0), list(0));
        check.due("S 2, 1", bytesOf(1, 256, 2, 1), list(1));
        check.due("S 2, 2", bytesOf(1, 256, 2, 2), list(2));
        check.due("S 2, -1", bytesOf(1, 256, 2, -1), list(3));
        check.due("S 2, 3", bytesOf(1, 256, 2, 3), list(4));
        check.due("S 2, -64", bytesOf(1, 256, 2, -64), list(255));
        check.due("S 2, 191", bytesOf(1, 256, 2, 191), list(254));
        check.due("S 2, 192", bytesOf(1, 256, 2, 192), list());
        check.due("S 2, 2^31 - 1", bytesOf(4, 256, 2, MAX), list(169, 170, 170, 170));
        check.due("S 2, -2^30", bytesOf(4, 256, 2, -(1 << 30)), list(255, 255, 255, 255));
        check.due("S 2, below -2^30", bytesOf(5, 256, 2, -(1 << 30) - 1), list());
        check.due("S 2, -2^31", bytesOf(5, 256, 2, MIN), list());
    }

    private static void differences() {
        check.topic("8, 9 differences");
        BandMill x = new BandMill();
        x.coding(1, 256, 0, 1);
        x.coding(4, 256, 1, 1);
        x.run(2, 0, 0);
        Check.fill(x, 5, 5, 260, 261);
        check.due("pack(0)", x.pack(0), 4);
        check.due("tape", Check.tape(x), list(5, 0, 255, 1));
        check.due("a run's other part begins anew", x.cost(2), -1);
        Check.fill(x, 200, 210, 100, 101);
        check.due("a falling row", x.cost(0), -1);
        check.due("but each part rises", x.cost(2), 4);
        x.end(0);
        x.pack(2);
        check.due("tape", Check.tape(x), list(200, 10, 100, 1));
        Check.fill(x, MAX, MIN, MAX);
        x.end(0);
        check.due("differences modulo 2^32", x.pack(1), 12);
        check.due("tape", Check.tape(x), list(254, 255, 255, 255, 2, 0, 0, 0, 1, 0, 0, 0));
        x.clear();
        check.due("unpack", x.unpack(1, 3), 12);
        check.due("row", Check.row(x), list(MAX, MIN, MAX));
    }

    private static void costOfRuns() {
        check.topic("8, 9 runs");
        BandMill x = new BandMill();
        x.coding(1, 256, 0, 0);
        x.coding(2, 256, 0, 0);
        x.run(2, 0, 1);
        x.run(0, 0, 1);
        x.run(400, 0, 1);
        x.run(1, 2, 4);
        Check.fill(x, 1, 2, 3);
        check.due("costs", list(x.cost(2), x.cost(3), x.cost(4), x.cost(5)), list(4, 6, 3, 3));
        x.pack(2);
        check.due("tape", Check.tape(x), list(1, 2, 3, 0));
        Check.fill(x, 1);
        check.due("a row shorter than n", x.cost(2), 1);
        x.clear();
        check.due("an empty row", list(x.cost(0), x.cost(2), x.cost(3), x.cost(5)), list(0, 0, 0, 0));
        Check.fill(x, 1, 2, 1000);
        check.due("the other way has it", x.cost(2), 4);
        Check.fill(x, 1, 1000, 2);
        check.due("the first way has it not", x.cost(2), -1);
        check.badArgument(x, "cost(-1)", () -> x.cost(-1));
        check.badArgument(x, "cost(6)", () -> x.cost(6));
        for (int far : FAR) {
            check.badArgument(x, "cost of far", () -> x.cost(far));
        }
    }

    private static void costOfPopular() {
        check.topic("8, 9 popular");
        BandMill x = new BandMill();
        x.coding(1, 256, 0, 0);
        x.coding(2, 256, 1, 0);
        x.popular(2, 1, 0, 1);
        x.clear();
        check.due("an empty row tells that there are no favourites", x.pack(2), 2);
        check.due("tape", Check.tape(x), list(0, 0));
        x.end(0);
        Check.fill(x, 3, 1, 2);
        check.due("no favourites", x.pack(2), 2 + 3 + 6);
        check.due("tape", Check.tape(x), list(0, 0, 0, 0, 0, 6, 0, 2, 0, 4, 0));
        x.end(0);
        Check.fill(x, 7, -9, -9, 8, 7, -9, 5, 5);
        check.due("two favourites, three that could be", x.pack(2), 2 + 4 + 8 + 6);
        check.due("tape", Check.tape(x),
                list(4, 0, 17, 0, 14, 0, 2, 1, 1, 0, 2, 1, 0, 0, 16, 0, 10, 0, 10, 0));
    }

    private static void favouritesOrder() {
        check.topic("8, 9 the favourites' order");
        BandMill x = new BandMill();
        x.coding(1, 256, 0, 0);
        x.popular(50, 0, 0, 0);
        x.popular(1, 0, 0, 0);
        Check.fill(x, 30, 20, 20, 30, 10, 10, 10, 40);
        x.pack(1);
        check.due("tape", Check.tape(x), list(3, 10, 30, 20, 2, 3, 3, 2, 1, 1, 1, 0, 40));
        x.end(0);
        Check.fill(x, 30, 20, 20, 30);
        x.pack(2);
        check.due("of as frequent ones the first", Check.tape(x), list(1, 30, 1, 0, 0, 1, 20, 20));
        x.end(0);
        Check.fill(x, 20, 30, 30, 30, 20);
        x.pack(2);
        check.due("the most frequent", Check.tape(x), list(1, 30, 0, 1, 1, 1, 0, 20, 20));
    }

    private static void favouritesMost() {
        check.topic("8, 9 many favourites");
        BandMill x = new BandMill();
        x.coding(2, 256, 0, 0);
        x.popular(50, 0, 0, 0);
        x.popular(49, 0, 0, 0);
        for (int i = 0; i < 400; i++) {
            x.number(i / 2 * 163);
        }
        check.due("50 of 200", x.pack(1), 2 * (1 + 50 + 400 + 300));
        check.due("how many", x.tape(0), 50);
        check.due("favourite 50", list(x.tape(100), x.tape(101)), list(49 * 163 % 256, 49 * 163 / 256));
        check.due("49 of 200", x.cost(2), 2 * (1 + 49 + 400 + 302));
        x.clear();
        check.due("unpack", x.unpack(1, 400), 1502);
        for (int i = 0; i < 400; i++) {
            check.due("row(" + i + ")", x.row(i), i / 2 * 163);
        }
        x.clear();
        for (int i = 0; i < 400; i++) {
            x.number(i);
        }
        check.due("400 different ones", x.cost(1), 2 * (1 + 400 + 400));
    }

    /** Numbers that lie evenly may meet in one corner of a table; the last step does so in the class's own. */
    private static void favouritesOfAnyNumbers() {
        check.topic("8, 9 favourites of numbers that lie evenly");
        for (int step : new int[] {1, 2, -3, 512, 1 << 16, 1 << 22, 0x9E3779B1, 0x0E8B2F51}) {
            BandMill x = new BandMill();
            x.coding(4, 256, 1, 0);
            x.popular(50, 0, 0, 0);
            for (int i = 0; i < 399; i++) {
                x.number(i * step);
            }
            x.number(398 * step);
            List<Integer> row = Check.row(x);
            check.due("pack of step " + step, x.pack(1), 4 * (1 + 1 + 400 + 398));
            check.due("how many", x.tape(0), 2);
            check.due("a token", list(x.tape(8 + 397 * 4), x.tape(8 + 398 * 4), x.tape(8 + 399 * 4)), list(0, 2, 2));
            x.clear();
            x.unpack(1, 400);
            check.due("row of step " + step, Check.row(x), row);
        }
    }

    private static void nestedFirstWay() {
        check.topic("8, 9, 10 ways inside ways");
        BandMill x = new BandMill();
        x.coding(1, 256, 0, 0);
        x.popular(3, 0, 0, 0);
        x.popular(3, 1, 1, 1);
        x.run(3, 2, 1);
        Check.fill(x, 5, 5, 6);
        int bytes = x.pack(2);
        check.due("tape", Check.tape(x), list(0, 0, 1, 0, 0, 5, 1, 1, 1, 1, 0, 0, 0, 0, 6));
        x.clear();
        check.due("unpack", x.unpack(2, 3), bytes);
        check.due("row", Check.row(x), list(5, 5, 6));
        x.end(0);
        Check.fill(x, 5, 5, 6, 9, 9);
        bytes = x.pack(3);
        check.due("a run of them", bytes, 15 + 4);
        x.clear();
        check.due("unpack", x.unpack(3, 5), bytes);
        check.due("row", Check.row(x), list(5, 5, 6, 9, 9));
        x.run(0, 1, 0);
        Check.fill(x, 8);
        check.due("nothing by a popular way is still a byte", x.cost(4), 2);
    }

    private static void cannotWrite() {
        check.topic("8, 9 a way that can't");
        BandMill x = new BandMill();
        x.coding(1, 256, 0, 0);
        x.coding(5, 64, 1, 0);
        x.coding(5, 64, 0, 1);
        x.popular(5, 0, 1, 1);
        x.popular(5, 1, 2, 1);
        x.popular(5, 1, 0, 0);
        Check.fill(x, 300, 300, 4);
        check.due("a favourite", x.cost(3), -1);
        check.due("a token", x.cost(4), -1);
        check.due("others that it has", x.cost(5), 1 + 2 + 3 + 1);
        Check.fill(x, 300, 300, 400);
        check.due("another one", x.cost(5), -1);
        check.due("pack", x.pack(5), -1);
        check.due("the tape stays", x.about(2), 0);
        Check.fill(x, 4, 4, 5);
        check.due("a rising row has no falling token", x.cost(4), -1);
        Check.fill(x, 5, 4, 4);
        check.due("tokens that rise", x.cost(4), 1 + 1 + 3 + 1);
        BandMill y = new BandMill();
        y.coding(1, 1, 1, 0);
        y.coding(2, 1, 1, 0);
        y.coding(1, 256, 0, 0);
        y.run(1, 0, 1);
        y.popular(50, 3, 2, 2);
        Check.fill(y, 3, 3);
        check.due("how many favourites", y.cost(4), 1 + 1 + 2);
        Check.fill(y, 200, 200);
        check.due("the favourites are a row of their own, their first by the run's first way", y.cost(4), -1);
    }

    private static void pack() {
        check.topic("9 pack");
        BandMill x = new BandMill();
        check.badArgument(x, "pack without ways", () -> x.pack(0));
        x.coding(1, 256, 0, 0);
        x.coding(2, 256, 0, 0);
        Check.fill(x, 1, 2);
        check.due("pack(0)", x.pack(0), 2);
        check.due("pack(1)", x.pack(1), 4);
        check.due("tape", Check.tape(x), list(1, 2, 1, 0, 2, 0));
        check.due("the row stays", Check.row(x), list(1, 2));
        check.due("reading stays", x.about(3), 0);
        x.number(300);
        check.due("pack(0) can't", x.pack(0), -1);
        check.due("tape", Check.tape(x), list(1, 2, 1, 0, 2, 0));
        check.due("cost leaves the tape", x.cost(1), 6);
        check.due("tape", Check.tape(x), list(1, 2, 1, 0, 2, 0));
        x.clear();
        check.due("an empty row", x.pack(0), 0);
        check.badArgument(x, "pack(2)", () -> x.pack(2));
        check.badArgument(x, "pack(-1)", () -> x.pack(-1));
        for (int far : FAR) {
            check.badArgument(x, "pack of far", () -> x.pack(far));
        }
    }

    private static void packAtTheEdge() {
        check.topic("9 pack at the tape's end");
        BandMill x = Check.filledTo(8000);
        check.due("8000 bytes", x.about(2), 8000);
        check.badState(x, "pack(0)", () -> x.pack(0));
        check.badArgument(x, "pack(5)", () -> x.pack(5));
        check.due("cost(4)", x.cost(4), 2000);
        x.end(7601);
        check.badState(x, "one too many", () -> x.pack(0));
        x.end(7600);
        check.due("just as many", x.pack(0), 400);
        check.due("the last bytes", list(x.tape(7599), x.tape(7600), x.tape(7999), x.tape(8000)),
                list(0, 0, 399 % 256, -1));
        x.clear();
        check.due("nothing more", x.pack(0), 0);
        x.seek(7600);
        check.due("unpack", x.unpack(0, 400), 400);
        check.due("read up to the end", x.about(3), 8000);
        x.popular(1, 4, 4, 4);
        x.popular(1, 5, 5, 5);
        x.popular(1, 6, 6, 6);
        x.clear();
        for (int i = 0; i < 400; i++) {
            x.number(i);
        }
        check.due("more than a tape can hold", x.cost(7) > 8000 ? 1 : 0, 1);
        x.end(0);
        check.badState(x, "pack of more than a tape", () -> x.pack(7));
    }

    private static void packThatCannotOnFullTape() {
        check.topic("9 pack that can't, on a full tape");
        BandMill x = Check.filledTo(8000);
        x.clear();
        x.number(-1);
        check.due("pack(4)", x.pack(4), -1);
        Check.fill(x, 1, 2, 3, -1);
        check.due("pack(0)", x.pack(0), -1);
        check.due("about(2)", x.about(2), 8000);
    }

    private static void unpack() {
        check.topic("10 unpack");
        BandMill x = new BandMill();
        check.badArgument(x, "unpack without ways", () -> x.unpack(0, 0));
        x.coding(1, 256, 1, 0);
        x.coding(2, 128, 0, 0);
        Check.load(x, 3, 4, 200, 1, 7, 8, 9);
        Check.fill(x, 9, 9, 9, 9);
        check.due("unpack(0, 2)", x.unpack(0, 2), 2);
        check.due("row", Check.row(x), list(-2, 2));
        check.due("about(3)", x.about(3), 2);
        check.due("unpack(1, 2)", x.unpack(1, 2), 3);
        check.due("row", Check.row(x), list(328, 7));
        check.due("row(2)", x.row(2), 0);
        check.due("about(3)", x.about(3), 5);
        check.due("unpack(1, 0)", x.unpack(1, 0), 0);
        check.due("row", Check.row(x), list());
        check.due("about(3)", x.about(3), 5);
        check.due("the tape stays", Check.tape(x), list(3, 4, 200, 1, 7, 8, 9));
        check.badArgument(x, "unpack(2, 1)", () -> x.unpack(2, 1));
        check.badArgument(x, "unpack(-1, 1)", () -> x.unpack(-1, 1));
        check.badArgument(x, "unpack(0, -1)", () -> x.unpack(0, -1));
        check.badArgument(x, "unpack(0, 401)", () -> x.unpack(0, 401));
        for (int far : FAR) {
            check.badArgument(x, "unpack(far, 1)", () -> x.unpack(far, 1));
            check.badArgument(x, "unpack(0, far)", () -> x.unpack(0, far));
        }
        x.unpack(0, 1);
        check.due("number behind it", x.number(6), 2);
        check.due("row", Check.row(x), list(4, 6));
        BandMill y = Check.filledTo(2000);
        check.due("400 numbers", y.unpack(4, 400), 2000);
        check.due("about(1)", y.about(1), 400);
        check.due("row(399)", y.row(399), 399 % 256);
    }

    private static void unpackOfRun() {
        check.topic("10 unpack of runs");
        BandMill x = new BandMill();
        x.coding(1, 256, 0, 1);
        x.coding(2, 256, 0, 1);
        x.run(2, 0, 1);
        x.run(3, 1, 2);
        Check.load(x, 5, 1, 7, 0, 1, 1);
        check.due("unpack(2, 4)", x.unpack(2, 4), 6);
        check.due("row", Check.row(x), list(5, 6, 7, 264));
        x.seek(0);
        check.due("as many as there are", x.unpack(2, 1), 1);
        check.due("row", Check.row(x), list(5));
        x.seek(0);
        check.due("none", x.unpack(2, 0), 0);
        x.seek(0);
        check.due("unpack(3, 3)", x.unpack(3, 3), 6);
        check.due("row", Check.row(x), list(5 + 256, 5 + 256 + 7, 5 + 256 + 7 + 257));
    }

    private static void unpackOfPopular() {
        check.topic("10 unpack of popular ways");
        BandMill x = new BandMill();
        x.coding(1, 256, 0, 0);
        x.coding(1, 256, 1, 1);
        x.popular(3, 1, 0, 1);
        Check.load(x, 4, 4, 1, 2, 0, 1, 0, 9, 4);
        check.due("favourites need not be rightly chosen", x.unpack(2, 4), 9);
        check.due("row", Check.row(x), list(1, -5, 2, -3));
        Check.load(x, 0, 8);
        check.due("no numbers", x.unpack(2, 0), 1);
        check.due("about(3)", x.about(3), 1);
        Check.load(x, 6, 2, 2, 2, 3, 2, 1);
        check.due("all of them favourites", x.unpack(2, 3), 7);
        check.due("row", Check.row(x), list(3, 2, 1));
        Check.load(x, 6, 2, 2, 2, 8);
        check.due("favourites of no number", x.unpack(2, 0), 4);
    }

    private static void tapeEnds() {
        check.topic("10, 11 fault 1");
        BandMill x = new BandMill();
        x.coding(1, 256, 0, 0);
        x.coding(3, 128, 0, 0);
        x.coding(5, 256, 0, 0);
        x.run(2, 0, 1);
        x.popular(2, 0, 0, 1);
        Check.fill(x, 4, 4);
        check.fault(x, 0, 1, 1, 0);
        Check.load(x, 1, 2, 200, 201);
        check.fault(x, 0, 5, 1, 4);
        check.fault(x, 1, 3, 1, 2);
        check.fault(x, 2, 1, 1, 0);
        check.fault(x, 3, 3, 1, 2);
        x.seek(4);
        check.fault(x, 0, 400, 1, 4);
        Check.load(x, 255, 255, 255, 255);
        check.fault(x, 2, 1, 1, 0);
        Check.load(x, 1, 9, 1, 0, 0, 5, 130);
        check.fault(x, 4, 3, 1, 6);
        check.fault(x, 4, 6, 1, 7);
        x.end(4);
        check.fault(x, 4, 3, 1, 4);
        x.end(1);
        check.fault(x, 4, 1, 1, 1);
        x.end(0);
        check.fault(x, 4, 0, 1, 0);
    }

    private static void codeThatIsNoNumber() {
        check.topic("10, 11 fault 2");
        BandMill x = new BandMill();
        x.coding(4, 256, 0, 0);
        x.coding(5, 256, 1, 0);
        x.coding(4, 256, 2, 0);
        x.coding(5, 255, 1, 0);
        x.coding(4, 256, 1, 0);
        Check.fill(x, 4, 4);
        Check.load(x, 255, 255, 255, 127, 0, 0, 0, 128);
        check.fault(x, 0, 2, 2, 4);
        check.due("2^31 - 1", x.unpack(0, 1), 4);
        check.due("row", Check.row(x), list(MAX));
        Check.load(x, 255, 255, 255, 255, 0, 0, 0, 0, 0, 1);
        check.fault(x, 1, 2, 2, 5);
        check.due("2^32 - 1", x.unpack(1, 1), 5);
        check.due("row", Check.row(x), list(MIN));
        Check.load(x, 169, 170, 170, 170, 170, 170, 170, 170, 171, 170, 170, 170);
        check.due("S 2, 2^31 - 1", x.unpack(2, 1), 4);
        check.due("row", Check.row(x), list(MAX));
        check.fault(x, 2, 1, 2, 4);
        x.seek(8);
        check.due("S 2, a number below 0", x.unpack(2, 1), 4);
        check.due("row", Check.row(x), list(-(0xAAAAAAAC >>> 2)));
        Check.load(x, 254, 255, 255, 255, 255, 255, 255, 255);
        check.fault(x, 2, 1, 2, 0);
        x.seek(4);
        check.due("S 2, -2^30", x.unpack(2, 1), 4);
        check.due("row", Check.row(x), list(-(1 << 30)));
        x.seek(0);
        check.due("S 1", x.unpack(4, 2), 8);
        check.due("row", Check.row(x), list(MAX, MIN));
        Check.load(x, 1, 1, 1, 1, 2);
        check.fault(x, 3, 1, 2, 0);
        Check.load(x, 1, 1, 1, 1, 1);
        check.due("255^4 and less is below 2^32", x.unpack(3, 1), 5);
        long code = 1L + 255 + 255 * 255 + 255 * 255 * 255 + 255L * 255 * 255 * 255;
        check.due("row(0)", x.row(0), code % 2 == 0 ? code / 2 : -(code + 1) / 2);
    }

    private static void wrongTokens() {
        check.topic("10, 11 fault 3");
        BandMill x = new BandMill();
        x.coding(1, 256, 1, 0);
        x.coding(2, 256, 1, 0);
        x.popular(2, 0, 1, 0);
        Check.fill(x, 4, 4);
        Check.load(x, 9, 6, 6, 6, 6);
        x.seek(1);
        check.fault(x, 2, 1, 3, 1);
        Check.load(x, 1, 0, 0, 0);
        check.fault(x, 2, 1, 3, 0);
        Check.load(x, 6);
        check.fault(x, 2, 0, 3, 0);
        Check.load(x, 4, 20, 22, 4, 0, 6, 0, 0, 0);
        check.fault(x, 2, 2, 3, 3);
        check.due("a token up to how many there are", x.unpack(2, 1), 5);
        check.due("row", Check.row(x), list(11));
        Check.load(x, 2, 20, 0, 0, 1, 0, 0, 0);
        check.fault(x, 2, 2, 3, 2);
        Check.load(x, 2, 20, 4, 0, 0, 0);
        check.fault(x, 2, 1, 3, 2);
        Check.load(x, 0, 2, 0);
        check.fault(x, 2, 1, 3, 1);
    }

    private static void faultOrder() {
        check.topic("10, 11 which fault comes first");
        BandMill x = new BandMill();
        x.coding(1, 256, 0, 0);
        x.coding(4, 256, 0, 0);
        x.popular(2, 0, 0, 0);
        x.popular(2, 0, 1, 0);
        x.popular(2, 2, 2, 2);
        Check.fill(x, 4, 4);
        Check.load(x, 1, 9, 5, 5);
        check.fault(x, 2, 3, 1, 4);
        check.fault(x, 2, 2, 3, 2);
        Check.load(x, 0, 9, 0, 0, 0, 0, 0, 0, 128);
        check.fault(x, 3, 2, 2, 5);
        check.fault(x, 3, 1, 3, 1);
        Check.load(x, 0, 0, 3);
        check.fault(x, 4, 0, 3, 0);
        Check.load(x, 0, 0, 1, 3);
        check.fault(x, 4, 0, 3, 3);
        Check.load(x, 0, 0, 1, 0, 0, 9, 0, 1, 0);
        check.fault(x, 4, 1, 3, 7);
        Check.load(x, 0, 0, 1, 0, 0, 9, 0, 0, 2);
        check.fault(x, 4, 1, 3, 6);
        Check.load(x, 0, 0, 1, 0, 0, 9, 0, 0, 1, 0);
        check.due("all is well", x.unpack(4, 1), 10);
        check.due("row", Check.row(x), list(9));
        check.due("place()", x.place(), -1);
    }

    private static void place() {
        check.topic("11 place");
        BandMill x = new BandMill();
        x.coding(2, 256, 0, 0);
        Check.load(x, 1, 2, 3);
        check.due("without unpack()", x.place(), -1);
        check.due("unpack(0, 2)", x.unpack(0, 2), -1);
        check.due("place()", x.place(), 2);
        check.badArgument(x, "unpack(1, 1)", () -> x.unpack(1, 1));
        check.badArgument(x, "unpack(0, 401)", () -> x.unpack(0, 401));
        x.end(0);
        x.feed(0);
        x.number(1);
        x.pack(0);
        x.cost(0);
        x.seek(1);
        x.bestRun();
        x.clear();
        check.due("other calls leave it", x.place(), 2);
        check.due("unpack(0, 1)", x.unpack(0, 1), 2);
        check.due("no fault any more", x.place(), -1);
    }

    private static void best() {
        check.topic("12 best");
        BandMill x = new BandMill();
        check.badArgument(x, "best without ways", () -> x.best(0, 0));
        x.coding(3, 256, 0, 0);
        x.coding(2, 256, 0, 0);
        x.coding(2, 256, 1, 0);
        x.coding(1, 256, 0, 0);
        x.popular(1, 3, 3, 1);
        Check.fill(x, 3, 4);
        check.due("best(0, 4)", x.best(0, 4), 3);
        check.due("best(0, 2)", x.best(0, 2), 1);
        check.due("best(2, 2)", x.best(2, 2), 2);
        check.due("best(0, 0)", x.best(0, 0), 0);
        check.due("best(4, 4)", x.best(4, 4), 4);
        Check.fill(x, -1);
        check.due("only one can", x.best(0, 4), 2);
        check.due("none can", x.best(0, 1), -1);
        check.due("none can", x.best(3, 3), -1);
        Check.fill(x, 900, 900, 900, 900, 900, 900);
        check.due("a popular way", x.best(0, 4), 1);
        x.clear();
        check.due("an empty row", x.best(0, 4), 0);
        check.due("an empty row by a popular way", x.best(4, 4), 4);
        int[][] wrong = {{-1, 0}, {0, 5}, {5, 5}, {1, 0}, {4, 3}, {0, -1}, {MIN, MAX}, {0, MAX}, {MIN, 0}, {MAX, MIN},
            {0, MIN}, {MAX, MAX}};
        for (int[] w : wrong) {
            check.badArgument(x, "best" + list(w), () -> x.best(w[0], w[1]));
        }
    }

    private static void bestRun() {
        check.topic("13 bestRun");
        BandMill x = new BandMill();
        check.due("without ways", x.bestRun(), -1);
        x.coding(4, 256, 0, 0);
        x.coding(2, 256, 0, 0);
        x.coding(1, 256, 0, 0);
        x.popular(5, 2, 2, 2);
        x.run(1, 2, 1);
        Check.fill(x, 1, 2, 300, 4);
        check.due("bestRun()", x.bestRun(), 2 + 4);
        check.due("chosen", list(x.chosen(0), x.chosen(1), x.chosen(2)), list(2, 2, 1));
        Check.fill(x, 300, 4, 1, 2);
        check.due("bestRun()", x.bestRun(), 2 + 3);
        check.due("chosen", list(x.chosen(0), x.chosen(1), x.chosen(2)), list(1, 1, 2));
        Check.fill(x, 300, 1, 300);
        check.due("bestRun()", x.bestRun(), 5 + 1);
        check.due("chosen", list(x.chosen(0), x.chosen(1), x.chosen(2)), list(0, 0, 1));
        Check.fill(x, 3, -1);
        check.due("none can", x.bestRun(), -1);
        check.due("chosen", list(x.chosen(0), x.chosen(1), x.chosen(2)), list(-1, -1, -1));
        check.due("the ways stay", x.about(0), 5);
        BandMill y = Check.filledTo(0);
        check.due("400 numbers", y.bestRun(), 400);
        check.due("chosen", list(y.chosen(0), y.chosen(1), y.chosen(2)), list(0, 0, 0));
    }

    private static void bestRunTies() {
        check.topic("13 bestRun of several");
        BandMill x = new BandMill();
        x.coding(1, 1, 1, 0);
        x.coding(1, 2, 0, 0);
        x.coding(1, 256, 0, 0);
        x.coding(1, 256, 1, 0);
        Check.fill(x, 5, 6);
        check.due("bestRun()", x.bestRun(), 2);
        check.due("chosen", list(x.chosen(0), x.chosen(1), x.chosen(2)), list(0, 0, 0));
        Check.fill(x, 200, -5, -6);
        check.due("bestRun()", x.bestRun(), 3);
        check.due("the least first of several", list(x.chosen(0), x.chosen(1), x.chosen(2)), list(1, 1, 0));
        Check.fill(x, -5, 200, 201);
        check.due("bestRun()", x.bestRun(), 3);
        check.due("the least other of several", list(x.chosen(0), x.chosen(1), x.chosen(2)), list(1, 0, 1));
        Check.fill(x, -5, 6, 200);
        check.due("bestRun()", x.bestRun(), 3);
        check.due("the least n of several", list(x.chosen(0), x.chosen(1), x.chosen(2)), list(1, 0, 1));
        Check.fill(x, 200, 6, -5, -6, 200);
        check.due("neither one way nor two", x.bestRun(), -1);
        x.clear();
        check.due("an empty row", x.bestRun(), 0);
        check.due("chosen", list(x.chosen(0), x.chosen(1), x.chosen(2)), list(0, 0, 0));
    }

    private static void bestRunDifferences() {
        check.topic("13 bestRun of differences");
        BandMill x = new BandMill();
        x.coding(1, 256, 0, 1);
        Check.fill(x, 200, 210, 100, 101);
        check.due("two rising parts", x.bestRun(), 4);
        check.due("chosen", list(x.chosen(0), x.chosen(1), x.chosen(2)), list(2, 0, 0));
        Check.fill(x, 200, 300, 400, 500);
        check.due("a part that can't begin anew", x.bestRun(), 4);
        check.due("chosen", list(x.chosen(0), x.chosen(1), x.chosen(2)), list(0, 0, 0));
        Check.fill(x, 200, 300, 290, 291);
        check.due("nor at its fall", x.bestRun(), -1);
        x.coding(5, 64, 1, 1);
        check.due("bestRun()", x.bestRun(), 1 + 4);
        check.due("chosen", list(x.chosen(0), x.chosen(1), x.chosen(2)), list(1, 0, 1));
    }

    private static void chosen() {
        check.topic("14 chosen");
        BandMill x = new BandMill();
        check.due("none yet", list(x.chosen(0), x.chosen(1), x.chosen(2)), list(-1, -1, -1));
        x.coding(2, 256, 0, 0);
        x.coding(1, 256, 0, 0);
        Check.fill(x, 1, 300);
        x.bestRun();
        x.clear();
        x.coding(5, 256, 0, 0);
        x.best(0, 2);
        check.due("of the latest", list(x.chosen(0), x.chosen(1), x.chosen(2)), list(1, 1, 0));
        check.badArgument(x, "chosen(3)", () -> x.chosen(3));
        check.badArgument(x, "chosen(-1)", () -> x.chosen(-1));
        for (int far : FAR) {
            check.badArgument(x, "chosen of far", () -> x.chosen(far));
        }
        x.number(-7);
        x.bestRun();
        check.due("none such", list(x.chosen(0), x.chosen(1), x.chosen(2)), list(-1, -1, -1));
    }

    private static void feed() {
        check.topic("15 feed");
        BandMill x = new BandMill();
        check.due("feed", x.feed(0x01020384), 4);
        check.due("feed", x.feed(-2), 8);
        check.due("tape", Check.tape(x), list(1, 2, 3, 0x84, 255, 255, 255, 254));
        x.end(3);
        check.due("feed", x.feed(MIN), 7);
        check.due("tape", Check.tape(x), list(1, 2, 3, 128, 0, 0, 0));
        check.due("reading stays", x.about(3), 0);
        BandMill y = Check.filledTo(7996);
        check.due("the last four", y.feed(0x0A0B0C0D), 8000);
        check.due("tape", list(y.tape(7996), y.tape(7999), y.tape(8000)), list(10, 13, -1));
        check.badState(y, "feed beyond", () -> y.feed(1));
        y.end(7997);
        check.badState(y, "feed one beyond", () -> y.feed(1));
    }

    private static void end() {
        check.topic("16 end");
        BandMill x = new BandMill();
        check.badArgument(x, "end(1)", () -> x.end(1));
        x.end(0);
        x.feed(0x01020304);
        check.badArgument(x, "end(-1)", () -> x.end(-1));
        check.badArgument(x, "end(5)", () -> x.end(5));
        for (int far : FAR) {
            check.badArgument(x, "end of far", () -> x.end(far));
        }
        x.seek(3);
        x.end(4);
        check.due("about", list(x.about(2), x.about(3)), list(4, 3));
        x.end(3);
        check.due("about", list(x.about(2), x.about(3)), list(3, 3));
        x.end(2);
        check.due("about", list(x.about(2), x.about(3)), list(2, 2));
        check.due("tape", list(x.tape(0), x.tape(1), x.tape(2)), list(1, 2, -1));
        x.seek(1);
        x.end(2);
        check.due("about(3)", x.about(3), 1);
        x.end(0);
        check.due("about", list(x.about(2), x.about(3)), list(0, 0));
    }

    private static void seek() {
        check.topic("17 seek");
        BandMill x = new BandMill();
        check.due("seek(0)", x.seek(0), 0);
        check.badArgument(x, "seek(1)", () -> x.seek(1));
        x.feed(0x01020304);
        check.due("seek(3)", x.seek(3), 0);
        check.due("seek(4)", x.seek(4), 3);
        check.badArgument(x, "seek(5)", () -> x.seek(5));
        check.badArgument(x, "seek(-1)", () -> x.seek(-1));
        for (int far : FAR) {
            check.badArgument(x, "seek of far", () -> x.seek(far));
        }
        check.due("seek(2)", x.seek(2), 4);
        x.coding(1, 256, 0, 0);
        check.due("unpack(0, 1)", x.unpack(0, 1), 1);
        check.due("row(0)", x.row(0), 3);
        check.due("seek(0)", x.seek(0), 3);
    }

    private static void tape() {
        check.topic("18 tape");
        BandMill x = new BandMill();
        check.due("an empty one", list(x.tape(-1), x.tape(0), x.tape(MIN), x.tape(MAX)), list(-1, -1, -1, -1));
        x.feed(0x7F80FF00);
        check.due("tape", list(x.tape(-1), x.tape(0), x.tape(1), x.tape(2), x.tape(3), x.tape(4)),
                list(-1, 127, 128, 255, 0, -1));
        x.end(2);
        check.due("behind its end", x.tape(2), -1);
        check.due("far", list(x.tape(8000), x.tape(MIN), x.tape(MAX)), list(-1, -1, -1));
    }

    private static void way() {
        check.topic("19 way");
        BandMill x = new BandMill();
        check.badArgument(x, "way(0, 0)", () -> x.way(0, 0));
        x.coding(5, 64, 2, 1);
        x.run(3, 0, 0);
        x.popular(7, 1, 0, 0);
        int[][] want = {{5, 64, 2, 1, 0}, {-1, -1, -1, -1, 1}, {-1, -1, -1, -1, 2}};
        for (int w = 0; w < 3; w++) {
            for (int what = 0; what < 5; what++) {
                check.due("way(" + w + ", " + what + ")", x.way(w, what), want[w][what]);
            }
            int asked = w;
            check.badArgument(x, "what 5", () -> x.way(asked, 5));
            check.badArgument(x, "what -1", () -> x.way(asked, -1));
        }
        check.badArgument(x, "way(3, 0)", () -> x.way(3, 0));
        check.badArgument(x, "way(-1, 4)", () -> x.way(-1, 4));
        for (int far : FAR) {
            check.badArgument(x, "far", () -> x.way(far, 0));
            check.badArgument(x, "what far", () -> x.way(0, far));
        }
    }

    private static void about() {
        check.topic("20 about");
        BandMill x = new BandMill();
        x.coding(1, 256, 0, 0);
        x.run(1, 0, 0);
        Check.fill(x, 1, 2, 3);
        x.pack(0);
        x.seek(1);
        check.due("about", list(x.about(0), x.about(1), x.about(2), x.about(3)), list(2, 3, 3, 1));
        check.badArgument(x, "about(4)", () -> x.about(4));
        check.badArgument(x, "about(-1)", () -> x.about(-1));
        for (int far : FAR) {
            check.badArgument(x, "about of far", () -> x.about(far));
        }
    }
}
