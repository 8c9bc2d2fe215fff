import java.util.List;

/**
 * Each sentence of the promises 1 to 20 that names a boundary case: too small, too large, empty, full, a
 * wrap-around, a refused call. A test is named by its promise and the sentence, as the document has
 * it, and by the case where the sentence has several.
 */
final class EdgesOfCallsTest {
    private static final int MIN = Integer.MIN_VALUE;
    private static final int MAX = Integer.MAX_VALUE;
    private static final Check check = new Check();

    private EdgesOfCallsTest() {
    }

    public static void main(String[] args) {
        makingWays();
        theRow();
        writing();
        reading();
        choosing();
        theTape();
        telling();
        check.finish();
    }

    private static void makingWays() {
        check.sentence("1 a new object", "No ways, an empty row and tape.", EdgesOfCallsTest::nothingYet);
        check.sentence("1 a new object", "An object is used for at most 512 calls", EdgesOfCallsTest::lastCall);
        check.sentence("2 coding", "B (1 .. 5)", "IllegalArgumentException", EdgesOfCallsTest::codingB);
        check.sentence("2 coding", "H (1 .. 256)", "IllegalArgumentException", EdgesOfCallsTest::codingH);
        check.sentence("2 coding", "S (0 .. 2)", "IllegalArgumentException", EdgesOfCallsTest::codingS);
        check.sentence("2 coding", "D (0, 1)", "IllegalArgumentException", EdgesOfCallsTest::codingD);
        check.sentence("2 coding", "IllegalStateException: there are 40.", EdgesOfCallsTest::codingFull);
        check.sentence("3 run", "IllegalArgumentException: also if n is not 0 .. 400", EdgesOfCallsTest::runN);
        check.sentence("3 run", "IllegalStateException: there are 40", EdgesOfCallsTest::runFull);
        check.sentence("3 run", "or one of both has a depth of 4", EdgesOfCallsTest::runTooDeep);
        check.sentence("3 run", "(a coding has 0, others one more than the deepest of theirs)",
                EdgesOfCallsTest::depths);
        check.sentence("4 popular", "m (1 .. 50)", "IllegalArgumentException", EdgesOfCallsTest::popularM);
        check.sentence("4 popular", "IllegalStateException: likewise.", "there are 40", EdgesOfCallsTest::popularFull);
        check.sentence("4 popular", "IllegalStateException: likewise.", "one has a depth of 4",
                EdgesOfCallsTest::popularTooDeep);
    }

    private static void theRow() {
        check.sentence("5 number", "A number comes behind the row: how many it has.", EdgesOfCallsTest::anyNumber);
        check.sentence("5 number", "IllegalStateException: there are 400.", EdgesOfCallsTest::rowFull);
        check.sentence("6 clear", "The row is empty: how many there were.", EdgesOfCallsTest::clearEmptyAndFull);
        check.sentence("7 row", "0 if there is none.", EdgesOfCallsTest::noSuchNumber);
    }

    private static void writing() {
        check.sentence("8 cost", "How many bytes a way takes for the row", "an empty one",
                EdgesOfCallsTest::costOfNothing);
        check.sentence("8 cost", "How many bytes a way takes for the row", "more than a tape has",
                EdgesOfCallsTest::costBeyondTheTape);
        check.sentence("8 cost", "NONE if it can't write it.", EdgesOfCallsTest::costNone);
        check.sentence("9 pack", "The row is written behind the tape: how many bytes", "none",
                EdgesOfCallsTest::packNothing);
        check.sentence("9 pack", "NONE if the way can't.", EdgesOfCallsTest::packNone);
        check.sentence("9 pack", "IllegalStateException: there would be more than 8000.", EdgesOfCallsTest::packFull);
    }

    private static void reading() {
        check.sentence("10 unpack", "the row becomes these", EdgesOfCallsTest::rowBecomesThese);
        check.sentence("10 unpack", "reading goes on behind them: how many bytes", EdgesOfCallsTest::readingGoesOn);
        check.sentence("10 unpack", "or the FAULT, below 0 (nothing else changes)", EdgesOfCallsTest::faultBelowZero);
        check.sentence("10 unpack", "IllegalArgumentException: also if n is not 0 .. 400.",
                EdgesOfCallsTest::unpackN);
        check.sentence("11 place", "The latest unpack()'s FAULT's place on the tape", EdgesOfCallsTest::placeOfLatest);
        check.sentence("11 place", "NONE without one.", EdgesOfCallsTest::placeNone);
    }

    private static void choosing() {
        check.sentence("12 best", "Of the ways from one to another one", EdgesOfCallsTest::bestFromTo);
        check.sentence("12 best", "the least number of several", EdgesOfCallsTest::bestOfSeveral);
        check.sentence("12 best", "NONE if none can write it.", EdgesOfCallsTest::bestNone);
        check.sentence("12 best", "IllegalArgumentException: also if to is below from.",
                EdgesOfCallsTest::bestToBelowFrom);
        check.sentence("13 bestRun", "Of all RUNS of two codings that are there", EdgesOfCallsTest::codingsAlone);
        check.sentence("13 bestRun", "and n from 0 to as many as the row has", EdgesOfCallsTest::bestN);
        check.sentence("13 bestRun", "of several the least n", EdgesOfCallsTest::leastN);
        check.sentence("13 bestRun", "then the least first", EdgesOfCallsTest::leastFirst);
        check.sentence("13 bestRun", "then other way", EdgesOfCallsTest::leastOther);
        check.sentence("13 bestRun", "that which takes the fewest bytes for the row", "an empty one",
                EdgesOfCallsTest::bestRunOfNothing);
        check.sentence("13 bestRun", "that which takes the fewest bytes for the row", "a full one",
                EdgesOfCallsTest::bestRunOfFullRow);
        check.sentence("13 bestRun", "that which takes the fewest bytes for the row", "numbers at the codes' edges",
                EdgesOfCallsTest::bestRunAtEdges);
        check.sentence("13 bestRun", "(of 0 for the first)", "in both parts", EdgesOfCallsTest::bestRunFirstDifference);
        check.sentence("13 bestRun", "NONE if none can write it.", EdgesOfCallsTest::bestRunNone);
        check.sentence("14 chosen", "Of the latest bestRun()", EdgesOfCallsTest::chosenOfLatest);
        check.sentence("14 chosen", "NONE if there was none such", EdgesOfCallsTest::chosenNoneSuch);
        check.sentence("14 chosen", "or none yet", EdgesOfCallsTest::chosenNoneYet);
        check.sentence("14 chosen", "IllegalArgumentException: what is none of these.", EdgesOfCallsTest::chosenWhat);
    }

    private static void theTape() {
        check.sentence("15 feed", "Four bytes come behind the tape, the highest first: how many it has.",
                EdgesOfCallsTest::feedAny);
        check.sentence("15 feed", "IllegalStateException: there would be more than 8000.",
                EdgesOfCallsTest::feedFull);
        check.sentence("16 end", "The tape keeps its first n bytes", "none, all", EdgesOfCallsTest::endNoneAll);
        check.sentence("16 end", "it is read from there on if that was behind", EdgesOfCallsTest::endMovesReading);
        check.sentence("16 end", "IllegalArgumentException: it has not so many", EdgesOfCallsTest::endTooMany);
        check.sentence("16 end", "or n is below 0", EdgesOfCallsTest::endBelowZero);
        check.sentence("17 seek", "It is read from byte i on: from where it was.", EdgesOfCallsTest::seekEnds);
        check.sentence("17 seek", "IllegalArgumentException: it has not so many", EdgesOfCallsTest::seekTooFar);
        check.sentence("17 seek", "or i is below 0", EdgesOfCallsTest::seekBelowZero);
        check.sentence("18 tape", "NONE if there is none.", EdgesOfCallsTest::noSuchByte);
        check.sentence("18 tape", "Byte i of the tape", "the least and the greatest", EdgesOfCallsTest::anyByte);
    }

    private static void telling() {
        check.sentence("19 way", "B, H, S, D of a coding (what = 0 .. 3; NONE of others)", EdgesOfCallsTest::traits);
        check.sentence("19 way", "its depth (4)", EdgesOfCallsTest::depthTold);
        check.sentence("19 way", "IllegalArgumentException: what is none of these.", EdgesOfCallsTest::wayWhat);
        check.sentence("20 about", "Ways (what = 0), numbers of the row (1), bytes of the tape (2), where it is"
                + " read (3).", "none and the most of each", EdgesOfCallsTest::aboutNoneAndMost);
        check.sentence("20 about", "IllegalArgumentException.", EdgesOfCallsTest::aboutWhat);
    }

    private static BandMill coded(int b, int h, int s, int d) {
        BandMill x = new BandMill();
        x.coding(b, h, s, d);
        return x;
    }

    private static void aboutIs(BandMill x, int ways, int numbers, int bytes, int read) {
        check.due("about", Check.list(x.about(0), x.about(1), x.about(2), x.about(3)),
                Check.list(ways, numbers, bytes, read));
    }

    private static void nothingYet() {
        BandMill x = new BandMill();
        aboutIs(x, 0, 0, 0, 0);
        check.due("row(0)", x.row(0), 0);
        check.due("tape(0)", x.tape(0), -1);
        check.due("clear()", x.clear(), 0);
        check.badArgument(x, "way(0, 4)", () -> x.way(0, 4));
        check.badArgument(x, "cost(0)", () -> x.cost(0));
        BandMill other = Check.filledTo(8000);
        aboutIs(other, 5, 400, 8000, 0);
        aboutIs(x, 0, 0, 0, 0);
        aboutIs(new BandMill(), 0, 0, 0, 0);
    }

    private static void lastCall() {
        BandMill x = new BandMill();
        int calls = 0;
        for (int i = 0; i < 40; i++, calls++) {
            check.due("coding", x.coding(5, 256, 1, 1), i);
        }
        for (int i = 0; i < 400; i++, calls++) {
            check.due("number", x.number(i % 2 == 0 ? MIN : MAX), i + 1);
        }
        for (int i = 0; i < 4; i++, calls++) {
            check.due("pack", x.pack(39), 2000);
        }
        for (int i = 0; i < 4; i++, calls++) {
            check.due("unpack", x.unpack(0, 400), 2000);
        }
        for (; calls < 510; calls++) {
            check.due("cost", x.cost(20), 2000);
        }
        check.due("call 511", x.bestRun(), 2000);
        check.due("call 512", x.row(399), MAX);
    }

    private static void codingB() {
        BandMill x = new BandMill();
        check.due("coding(1, 1, 0, 0)", x.coding(1, 1, 0, 0), 0);
        check.due("coding(5, 1, 0, 0)", x.coding(5, 1, 0, 0), 1);
        for (int b : new int[] {0, 6, -1, MIN, MAX}) {
            check.badArgument(x, "B " + b, () -> x.coding(b, 1, 0, 0));
        }
    }

    private static void codingH() {
        BandMill x = new BandMill();
        check.due("coding(1, 1, 0, 0)", x.coding(1, 1, 0, 0), 0);
        check.due("coding(1, 256, 0, 0)", x.coding(1, 256, 0, 0), 1);
        for (int h : new int[] {0, 257, -1, MIN, MAX}) {
            check.badArgument(x, "H " + h, () -> x.coding(1, h, 0, 0));
        }
    }

    private static void codingS() {
        BandMill x = new BandMill();
        check.due("coding(1, 1, 0, 0)", x.coding(1, 1, 0, 0), 0);
        check.due("coding(1, 1, 2, 0)", x.coding(1, 1, 2, 0), 1);
        for (int s : new int[] {-1, 3, MIN, MAX}) {
            check.badArgument(x, "S " + s, () -> x.coding(1, 1, s, 0));
        }
    }

    private static void codingD() {
        BandMill x = new BandMill();
        check.due("coding(1, 1, 0, 0)", x.coding(1, 1, 0, 0), 0);
        check.due("coding(1, 1, 0, 1)", x.coding(1, 1, 0, 1), 1);
        for (int d : new int[] {-1, 2, MIN, MAX}) {
            check.badArgument(x, "D " + d, () -> x.coding(1, 1, 0, d));
        }
    }

    /** A mill with so many ways, of all kinds and depths up to 4. */
    private static BandMill mixed(int ways) {
        BandMill x = coded(1, 256, 0, 0);
        for (int i = 1; i < ways; i++) {
            switch (i % 3) {
                case 0:
                    x.coding(1, 256, 0, 0);
                    break;
                case 1:
                    x.run(1, 0, 0);
                    break;
                default:
                    x.popular(1, 0, 0, 0);
                    break;
            }
        }
        return x;
    }

    private static void codingFull() {
        BandMill x = mixed(39);
        check.due("the last one", x.coding(5, 256, 2, 1), 39);
        check.badState(x, "one more", () -> x.coding(5, 256, 2, 1));
        check.badState(x, "once more", () -> x.coding(1, 1, 0, 0));
        check.due("about(0)", x.about(0), 40);
        check.due("way(39, 1)", x.way(39, 1), 256);
    }

    private static void runN() {
        BandMill x = coded(1, 256, 0, 0);
        check.due("run(0, 0, 0)", x.run(0, 0, 0), 1);
        check.due("run(400, 0, 0)", x.run(400, 0, 0), 2);
        for (int n : new int[] {-1, 401, MIN, MAX}) {
            check.badArgument(x, "n " + n, () -> x.run(n, 0, 0));
        }
    }

    private static void runFull() {
        BandMill x = mixed(39);
        check.due("the last one", x.run(1, 0, 38), 39);
        check.badState(x, "one more", () -> x.run(1, 0, 0));
        check.badState(x, "one of the last one", () -> x.run(1, 39, 39));
        check.due("about(0)", x.about(0), 40);
    }

    /** Way i has the depth i, 0 to 4. */
    private static BandMill deep() {
        BandMill x = coded(1, 256, 0, 0);
        x.run(1, 0, 0);
        x.popular(1, 0, 1, 0);
        x.run(1, 2, 0);
        x.popular(1, 0, 0, 3);
        return x;
    }

    private static void runTooDeep() {
        BandMill x = deep();
        check.badState(x, "run(1, 4, 0)", () -> x.run(1, 4, 0));
        check.badState(x, "run(1, 0, 4)", () -> x.run(1, 0, 4));
        check.badState(x, "run(0, 4, 4)", () -> x.run(0, 4, 4));
        check.due("run(1, 3, 3)", x.run(1, 3, 3), 5);
        writesAndReads(x, 5);
        check.badState(x, "run(1, 5, 0)", () -> x.run(1, 5, 0));
    }

    private static void writesAndReads(BandMill x, int way) {
        int[][] rows = {{}, {5}, {5, 5, 6}, {6, 7, 7, 6, 6, 0, 8}};
        for (int[] row : rows) {
            x.end(0);
            Check.fill(x, row);
            int bytes = x.pack(way);
            check.due("bytes of way " + way, x.about(2), bytes);
            x.clear();
            check.due("unpack by way " + way, x.unpack(way, row.length), bytes);
            check.rowIs(x, row);
        }
    }

    private static void depths() {
        BandMill x = deep();
        for (int i = 0; i <= 4; i++) {
            check.due("depth of way " + i, x.way(i, 4), i);
        }
        int[][] runs = {{0, 0, 1}, {0, 1, 2}, {1, 0, 2}, {2, 1, 3}, {1, 3, 4}, {3, 1, 4}};
        for (int[] r : runs) {
            int way = x.run(1, r[0], r[1]);
            check.due("depth of a run of " + Check.list(r[0], r[1]), x.way(way, 4), r[2]);
        }
        int[][] populars = {{0, 0, 0, 1}, {2, 0, 1, 3}, {0, 2, 1, 3}, {1, 0, 2, 3}, {3, 2, 1, 4}, {0, 0, 3, 4}};
        for (int[] p : populars) {
            int way = x.popular(1, p[0], p[1], p[2]);
            check.due("depth of a popular one of " + Check.list(p[0], p[1], p[2]), x.way(way, 4), p[3]);
        }
    }

    private static void popularM() {
        BandMill x = coded(1, 256, 0, 0);
        check.due("popular(1, 0, 0, 0)", x.popular(1, 0, 0, 0), 1);
        check.due("popular(50, 0, 0, 0)", x.popular(50, 0, 0, 0), 2);
        for (int m : new int[] {0, 51, -1, MIN, MAX}) {
            check.badArgument(x, "m " + m, () -> x.popular(m, 0, 0, 0));
        }
    }

    private static void popularFull() {
        BandMill x = mixed(39);
        check.due("the last one", x.popular(1, 0, 38, 0), 39);
        check.badState(x, "one more", () -> x.popular(1, 0, 0, 0));
        check.badState(x, "one of the last one", () -> x.popular(1, 39, 39, 39));
        check.due("about(0)", x.about(0), 40);
    }

    private static void popularTooDeep() {
        BandMill x = deep();
        check.badState(x, "popular(1, 4, 0, 0)", () -> x.popular(1, 4, 0, 0));
        check.badState(x, "popular(1, 0, 4, 0)", () -> x.popular(1, 0, 4, 0));
        check.badState(x, "popular(1, 0, 0, 4)", () -> x.popular(1, 0, 0, 4));
        check.due("popular(1, 3, 3, 3)", x.popular(1, 3, 3, 3), 5);
        writesAndReads(x, 4);
        writesAndReads(x, 5);
        check.badState(x, "popular(1, 5, 0, 0)", () -> x.popular(1, 5, 0, 0));
    }

    private static void anyNumber() {
        BandMill x = new BandMill();
        int[] edges = {0, -1, 1, MIN, MAX};
        for (int i = 0; i < edges.length; i++) {
            check.due("number(" + edges[i] + ")", x.number(edges[i]), i + 1);
        }
        check.rowIs(x, edges);
    }

    private static void rowFull() {
        BandMill x = coded(1, 256, 0, 0);
        for (int i = 1; i <= 400; i++) {
            check.due("number " + i, x.number(i), i);
        }
        check.badState(x, "number 401", () -> x.number(7));
        check.due("row(399)", x.row(399), 400);
        check.due("row(400)", x.row(400), 0);
        x.clear();
        check.due("room again", x.number(7), 1);
        BandMill y = Check.filledTo(2000);
        y.clear();
        y.unpack(0, 400);
        check.badState(y, "behind 400 that were read", () -> y.number(7));
        y.unpack(0, 399);
        check.due("behind 399", y.number(7), 400);
        check.badState(y, "full again", () -> y.number(7));
    }

    private static void clearEmptyAndFull() {
        BandMill x = Check.filledTo(12);
        check.due("a full row", x.clear(), 400);
        check.due("an empty row", x.clear(), 0);
        check.rowIs(x);
        aboutIs(x, 5, 0, 12, 0);
        x.number(3);
        check.due("a row of one", x.clear(), 1);
        x.unpack(0, 12);
        check.due("a row that was read", x.clear(), 12);
        check.due("its number 0", x.row(0), 0);
    }

    private static void noSuchNumber() {
        BandMill x = coded(1, 256, 0, 0);
        for (int i : new int[] {-1, 0, 1, 399, 400, MIN, MAX}) {
            check.due("row(" + i + ") of an empty row", x.row(i), 0);
        }
        Check.fill(x, 5, 6, 7);
        for (int i : new int[] {-1, 3, 4, 399, 400, 401, MIN, MAX}) {
            check.due("row(" + i + ") of three", x.row(i), 0);
        }
        check.due("row(0)", x.row(0), 5);
        check.due("row(2)", x.row(2), 7);
        Check.load(x, 9);
        x.unpack(0, 1);
        check.due("behind a shorter row", x.row(1), 0);
        x.clear();
        check.due("behind clear()", x.row(0), 0);
        BandMill full = Check.filledTo(0);
        check.due("the last of 400", full.row(399), 399 - 256);
        check.due("behind 400", full.row(400), 0);
        check.due("before 400", full.row(-1), 0);
    }

    private static void costOfNothing() {
        BandMill x = coded(5, 256, 0, 0);
        x.run(0, 0, 0);
        x.run(400, 0, 0);
        check.due("a coding", x.cost(0), 0);
        check.due("runs", x.cost(1) + x.cost(2), 0);
        x.popular(1, 0, 0, 0);
        check.due("a popular one tells how many favourites", x.cost(3), 5);
    }

    /** Each popular one writes its 400 tokens by five bytes, and hands the 400 numbers on to the next. */
    private static void costBeyondTheTape() {
        BandMill x = coded(5, 256, 0, 0);
        for (int i = 0; i < 4; i++) {
            x.popular(1, 0, 0, i);
        }
        for (int i = 0; i < 400; i++) {
            x.number(i);
        }
        check.due("cost(3)", x.cost(3), 3 * 2005 + 2000);
        check.due("cost(4)", x.cost(4), 4 * 2005 + 2000);
        check.due("best(3, 4)", x.best(3, 4), 3);
        check.due("best(4, 4)", x.best(4, 4), 4);
        check.badState(x, "pack(3)", () -> x.pack(3));
        check.badState(x, "pack(4)", () -> x.pack(4));
        check.due("pack(2)", x.pack(2), 2 * 2005 + 2000);
        check.due("on a tape with bytes", x.cost(4), 4 * 2005 + 2000);
    }

    private static void costNone() {
        BandMill x = coded(1, 256, 0, 0);
        x.run(1, 0, 0);
        x.popular(1, 0, 0, 0);
        Check.fill(x, 255);
        check.due("255", Check.list(x.cost(0), x.cost(1), x.cost(2)), Check.list(1, 1, 3));
        Check.fill(x, 256);
        check.due("256", Check.list(x.cost(0), x.cost(1), x.cost(2)), Check.list(-1, -1, -1));
        Check.fill(x, 1, 2, 3, -1);
        check.due("the last one", Check.list(x.cost(0), x.cost(1), x.cost(2)), Check.list(-1, -1, -1));
        Check.fill(x, -1, 1, 2, 3);
        check.due("the first one", Check.list(x.cost(0), x.cost(1), x.cost(2)), Check.list(-1, -1, -1));
        aboutIs(x, 3, 4, 0, 0);
    }

    private static void packNothing() {
        BandMill x = coded(3, 256, 0, 0);
        check.due("an empty row on an empty tape", x.pack(0), 0);
        check.due("about(2)", x.about(2), 0);
        x.feed(5);
        check.due("an empty row", x.pack(0), 0);
        check.tapeIs(x, 0, 0, 0, 5);
        BandMill full = Check.filledTo(8000);
        full.clear();
        check.due("an empty row on a full tape", full.pack(4), 0);
        check.due("about(2)", full.about(2), 8000);
    }

    private static void packNone() {
        BandMill x = coded(1, 256, 0, 0);
        x.run(1, 0, 0);
        x.popular(1, 0, 0, 0);
        x.feed(0x01020304);
        Check.fill(x, 5, 6, 256);
        for (int way = 0; way < 3; way++) {
            check.due("pack(" + way + ")", x.pack(way), -1);
            check.tapeIs(x, 1, 2, 3, 4);
            check.rowIs(x, 5, 6, 256);
        }
        aboutIs(x, 3, 3, 4, 0);
        x.clear();
        x.number(9);
        check.due("the next one that can", x.pack(0), 1);
        check.tapeIs(x, 1, 2, 3, 4, 9);
        BandMill full = Check.filledTo(8000);
        Check.fill(full, 1, 2, -1);
        check.due("on a full tape", full.pack(0), -1);
        check.due("about(2)", full.about(2), 8000);
    }

    private static void packFull() {
        BandMill x = Check.filledTo(8000);
        check.badState(x, "400 bytes on 8000", () -> x.pack(0));
        x.end(7601);
        check.badState(x, "400 bytes on 7601", () -> x.pack(0));
        x.end(7600);
        check.due("400 bytes on 7600", x.pack(0), 400);
        check.due("about(2)", x.about(2), 8000);
        check.due("the last byte", x.tape(7999), 399 - 256);
        Check.fill(x, 77);
        check.badState(x, "one byte on 8000", () -> x.pack(0));
        x.end(7999);
        check.badState(x, "two bytes on 7999", () -> x.pack(1));
        check.due("one byte on 7999", x.pack(0), 1);
        check.due("the last byte", x.tape(7999), 77);
        x.seek(7999);
        check.due("reading it", x.unpack(0, 1), 1);
        check.due("about(3)", x.about(3), 8000);
    }

    private static void rowBecomesThese() {
        BandMill x = coded(1, 256, 0, 0);
        Check.load(x, 1, 2, 3, 4, 5, 6);
        Check.fill(x, 9, 9, 9);
        x.unpack(0, 1);
        check.rowIs(x, 1);
        check.due("behind a shorter one", x.row(1), 0);
        x.unpack(0, 4);
        check.rowIs(x, 2, 3, 4, 5);
        x.unpack(0, 0);
        check.rowIs(x);
        check.due("row(0)", x.row(0), 0);
        x.unpack(0, 1);
        check.rowIs(x, 6);
        BandMill y = Check.filledTo(2000);
        y.clear();
        check.due("400 numbers", y.unpack(4, 400), 2000);
        check.due("about(1)", y.about(1), 400);
        for (int i = 0; i < 400; i++) {
            check.due("row(" + i + ")", y.row(i), i % 256);
        }
    }

    private static void readingGoesOn() {
        BandMill x = coded(2, 128, 0, 0);
        Check.load(x, 1, 200, 1, 3, 129, 0);
        check.due("no numbers", x.unpack(0, 0), 0);
        check.due("about(3)", x.about(3), 0);
        check.due("two", x.unpack(0, 2), 3);
        check.due("about(3)", x.about(3), 3);
        check.due("up to the end", x.unpack(0, 2), 3);
        check.due("about(3)", x.about(3), 6);
        check.rowIs(x, 3, 129);
        check.due("no numbers at the end", x.unpack(0, 0), 0);
        check.fault(x, 0, 1, 1, 6);
        x.feed(0x05000000);
        check.due("bytes that came behind", x.unpack(0, 1), 1);
        check.rowIs(x, 5);
        check.tapeIs(x, 1, 200, 1, 3, 129, 0, 5, 0, 0, 0);
    }

    private static void faultBelowZero() {
        BandMill x = new BandMill();
        x.coding(4, 256, 0, 0);
        x.popular(1, 0, 0, 0);
        Check.fill(x, 8, 9);
        x.bestRun();
        Check.load(x, 0, 0, 0, 0, 2, 0, 0, 0, 0, 0, 0, 128, 7, 7);
        check.fault(x, 0, 3, 2, 8);
        check.fault(x, 1, 2, 2, 8);
        check.fault(x, 1, 1, 3, 4);
        x.seek(4);
        check.fault(x, 1, 1, 3, 4);
        x.seek(12);
        check.fault(x, 0, 1, 1, 12);
        x.seek(0);
        check.rowIs(x, 8, 9);
        check.due("without a fault", x.unpack(0, 2), 8);
        check.rowIs(x, 0, 2);
        check.chosenIs(x, 0, 0, 0);
    }

    private static void unpackN() {
        BandMill x = Check.filledTo(8000);
        for (int n : new int[] {-1, 401, MIN, MAX}) {
            check.badArgument(x, "n " + n, () -> x.unpack(0, n));
        }
        check.due("n 400", x.unpack(4, 400), 2000);
        check.due("about(1)", x.about(1), 400);
        check.badArgument(x, "n 401", () -> x.unpack(0, 401));
        check.due("n 0", x.unpack(4, 0), 0);
        check.due("about(1)", x.about(1), 0);
        check.badArgument(x, "n -1", () -> x.unpack(0, -1));
        check.badArgument(x, "neither way nor n", () -> x.unpack(5, 401));
    }

    private static void placeOfLatest() {
        BandMill x = coded(2, 256, 0, 0);
        Check.load(x, 1, 0, 2);
        check.fault(x, 0, 2, 1, 2);
        x.seek(1);
        check.fault(x, 0, 2, 1, 3);
        check.badArgument(x, "unpack(1, 1)", () -> x.unpack(1, 1));
        check.badArgument(x, "unpack(0, 401)", () -> x.unpack(0, 401));
        check.due("refused calls are no latest ones", x.place(), 3);
        x.seek(0);
        x.clear();
        x.number(5);
        x.cost(0);
        x.pack(0);
        x.best(0, 0);
        x.bestRun();
        x.feed(1);
        x.coding(1, 1, 0, 0);
        check.due("calls but unpack() leave it", x.place(), 3);
        x.end(0);
        check.due("it is told behind the tape too", x.place(), 3);
        check.fault(x, 0, 1, 1, 0);
        check.due("place 0 is not NONE", x.place(), 0);
    }

    private static void placeNone() {
        BandMill x = coded(2, 256, 0, 0);
        check.due("no unpack() yet", x.place(), -1);
        check.due("of no numbers", x.unpack(0, 0), 0);
        check.due("place()", x.place(), -1);
        check.fault(x, 0, 1, 1, 0);
        check.due("of no numbers", x.unpack(0, 0), 0);
        check.due("place()", x.place(), -1);
        check.fault(x, 0, 1, 1, 0);
        x.feed(0);
        check.due("place() stays", x.place(), 0);
        check.due("unpack(0, 2)", x.unpack(0, 2), 4);
        check.due("place()", x.place(), -1);
    }

    private static void bestFromTo() {
        BandMill x = Check.filledTo(0);
        check.due("best(0, 4)", x.best(0, 4), 0);
        check.due("best(1, 4)", x.best(1, 4), 1);
        for (int i = 0; i < 5; i++) {
            check.due("best(" + i + ", " + i + ")", x.best(i, i), i);
        }
        BandMill y = new BandMill();
        y.coding(3, 256, 0, 0);
        y.coding(2, 256, 0, 0);
        y.coding(1, 256, 0, 0);
        y.number(5);
        check.due("the last one counts", y.best(0, 2), 2);
        check.due("what is behind does not", y.best(0, 1), 1);
        check.due("nor what is before", y.best(1, 1), 1);
        check.badArgument(y, "best(0, 3)", () -> y.best(0, 3));
        check.badArgument(y, "best(-1, 2)", () -> y.best(-1, 2));
    }

    private static void bestOfSeveral() {
        BandMill x = new BandMill();
        x.coding(2, 256, 0, 0);
        x.coding(1, 256, 0, 0);
        x.coding(1, 1, 0, 0);
        x.run(400, 1, 1);
        Check.fill(x, 1, 2);
        check.due("best(0, 3)", x.best(0, 3), 1);
        check.due("best(2, 3)", x.best(2, 3), 2);
        x.clear();
        check.due("an empty row", x.best(0, 3), 0);
        check.due("an empty row", x.best(1, 3), 1);
        x.popular(1, 1, 1, 1);
        check.due("a popular one takes a byte for an empty row", x.best(4, 4), 4);
        x.coding(5, 256, 0, 0);
        check.due("and is not the best", x.best(4, 5), 5);
    }

    private static void bestNone() {
        BandMill x = new BandMill();
        x.coding(1, 256, 0, 0);
        x.run(1, 0, 0);
        x.popular(1, 0, 0, 0);
        x.coding(5, 64, 1, 0);
        Check.fill(x, -1);
        check.due("best(0, 2)", x.best(0, 2), -1);
        check.due("best(0, 0)", x.best(0, 0), -1);
        check.due("best(0, 3)", x.best(0, 3), 3);
        Check.fill(x, 0);
        check.due("best(0, 2)", x.best(0, 2), 0);
    }

    private static void bestToBelowFrom() {
        BandMill x = Check.filledTo(0);
        int[][] wrong = {{1, 0}, {4, 3}, {4, 0}, {0, -1}, {0, MIN}, {MAX, MIN}, {5, 4}};
        for (int[] w : wrong) {
            check.badArgument(x, "best" + Check.list(w), () -> x.best(w[0], w[1]));
        }
        check.due("best(3, 3)", x.best(3, 3), 3);
    }

    private static void codingsAlone() {
        BandMill x = new BandMill();
        check.due("no ways", x.bestRun(), -1);
        x.coding(4, 256, 0, 0);
        x.coding(3, 256, 0, 0);
        x.run(2, 1, 1);
        x.popular(1, 1, 1, 1);
        Check.fill(x, 7, 7, 7, 7);
        check.due("runs and popular ones are none", x.bestRun(), 12);
        check.chosenIs(x, 0, 0, 1);
        x.coding(1, 256, 0, 0);
        check.due("behind them too", x.bestRun(), 4);
        check.chosenIs(x, 0, 0, 4);
        BandMill one = coded(2, 256, 0, 0);
        Check.fill(one, 7, 8);
        check.due("one coding in both places", one.bestRun(), 4);
        check.chosenIs(one, 0, 0, 0);
        BandMill all = new BandMill();
        for (int i = 0; i < 39; i++) {
            all.coding(2, 256, 0, 0);
        }
        all.coding(1, 256, 0, 0);
        Check.fill(all, 7, 300);
        check.due("40 codings", all.bestRun(), 3);
        check.chosenIs(all, 1, 39, 0);
    }

    /** n as many as the row has is never less than n 0 with the same coding as the other. */
    private static void bestN() {
        BandMill x = new BandMill();
        x.coding(2, 256, 0, 0);
        x.coding(1, 256, 0, 0);
        Check.fill(x, 1, 2, 3);
        check.due("all by the other", x.bestRun(), 3);
        check.chosenIs(x, 0, 0, 1);
        Check.fill(x, 300, 2, 3);
        check.due("n 1", x.bestRun(), 4);
        check.chosenIs(x, 1, 0, 1);
        Check.fill(x, 1, 2, 300);
        check.due("n one less than the row has", x.bestRun(), 4);
        check.chosenIs(x, 2, 1, 0);
        Check.fill(x, 300, 301, 302);
        check.due("all by the one that can", x.bestRun(), 6);
        check.chosenIs(x, 0, 0, 0);
        BandMill y = coded(1, 256, 0, 1);
        Check.fill(y, 200, 100);
        check.due("a difference that begins anew", y.bestRun(), 2);
        check.chosenIs(y, 1, 0, 0);
    }

    private static void leastN() {
        BandMill x = new BandMill();
        x.coding(1, 256, 0, 0);
        x.coding(1, 256, 1, 0);
        Check.fill(x, 5, 6);
        check.due("any n", x.bestRun(), 2);
        check.chosenIs(x, 0, 0, 0);
        Check.fill(x, 200, 5, 6, -7);
        check.due("n 1, 2 or 3", x.bestRun(), 4);
        check.chosenIs(x, 1, 0, 1);
        Check.fill(x, -7, 5, 6, 200);
        check.due("n 1, 2 or 3", x.bestRun(), 4);
        check.chosenIs(x, 1, 1, 0);
    }

    private static void leastFirst() {
        BandMill x = new BandMill();
        x.coding(1, 256, 1, 0);
        x.coding(1, 256, 0, 0);
        x.coding(1, 1, 0, 0);
        Check.fill(x, 5, 6);
        check.due("n 0: no number for the first", x.bestRun(), 2);
        check.chosenIs(x, 0, 0, 0);
        Check.fill(x, 200, -5);
        check.due("ways 1 and 2 take 200", x.bestRun(), 2);
        check.chosenIs(x, 1, 1, 0);
        BandMill y = new BandMill();
        y.coding(1, 256, 0, 0);
        y.coding(2, 256, 0, 0);
        Check.fill(y, 300, 301);
        check.due("n 0: a first that could not write the row", y.bestRun(), 4);
        check.chosenIs(y, 0, 0, 1);
        BandMill z = new BandMill();
        z.coding(1, 1, 1, 0);
        z.run(1, 0, 0);
        z.coding(1, 1, 0, 0);
        z.coding(1, 2, 0, 0);
        Check.fill(z, 200, -5);
        check.due("the least first before the other", z.bestRun(), 2);
        check.chosenIs(z, 1, 2, 0);
    }

    private static void leastOther() {
        BandMill x = new BandMill();
        x.coding(1, 256, 1, 0);
        x.coding(1, 256, 0, 0);
        x.coding(1, 1, 0, 0);
        Check.fill(x, -5, 200);
        check.due("ways 1 and 2 take 200", x.bestRun(), 2);
        check.chosenIs(x, 1, 0, 1);
        Check.fill(x, 200, 201);
        check.due("all by the other", x.bestRun(), 2);
        check.chosenIs(x, 0, 0, 1);
    }

    private static void bestRunOfNothing() {
        BandMill x = new BandMill();
        check.due("no ways", x.bestRun(), -1);
        check.chosenIs(x, -1, -1, -1);
        x.coding(5, 256, 0, 0);
        x.run(1, 0, 0);
        x.coding(1, 256, 0, 0);
        check.due("an empty row", x.bestRun(), 0);
        check.chosenIs(x, 0, 0, 0);
    }

    private static void bestRunOfFullRow() {
        BandMill x = new BandMill();
        x.coding(5, 256, 0, 0);
        x.coding(4, 256, 0, 0);
        x.coding(1, 256, 0, 0);
        for (int i = 0; i < 399; i++) {
            x.number(i % 256);
        }
        x.number(MAX);
        check.due("the last one by four bytes", x.bestRun(), 399 + 4);
        check.chosenIs(x, 399, 2, 1);
        x.clear();
        x.number(MAX);
        for (int i = 0; i < 399; i++) {
            x.number(i % 256);
        }
        check.due("the first one by four bytes", x.bestRun(), 399 + 4);
        check.chosenIs(x, 1, 1, 2);
        BandMill y = coded(5, 256, 1, 0);
        for (int i = 0; i < 400; i++) {
            y.number(MIN);
        }
        check.due("the most bytes", y.bestRun(), 2000);
        check.chosenIs(y, 0, 0, 0);
    }

    private static void bestRunAtEdges() {
        int[] edges = {0, 1, 127, 128, 191, 192, 255, 256, 12479, 12480, 16511, 16512, 65535, 65536, MAX, -1, MIN};
        for (int b = 1; b <= 5; b++) {
            for (int h : new int[] {1, 64, 128, 255, 256}) {
                for (int s = 0; s <= 2; s++) {
                    BandMill x = coded(b, h, s, 0);
                    for (int edge : edges) {
                        Check.fill(x, edge);
                        check.due("bestRun() of " + edge, x.bestRun(), x.cost(0));
                    }
                }
            }
        }
    }

    private static void bestRunFirstDifference() {
        BandMill x = coded(1, 256, 0, 1);
        Check.fill(x, 255);
        check.due("255", x.bestRun(), 1);
        Check.fill(x, 256);
        check.due("256 is too far from 0", x.bestRun(), -1);
        Check.fill(x, 100, 355);
        check.due("255 more", x.bestRun(), 2);
        check.chosenIs(x, 0, 0, 0);
        Check.fill(x, 100, 356);
        check.due("256 more", x.bestRun(), -1);
        Check.fill(x, 200, 300, 50);
        check.due("a fall behind a rise", x.bestRun(), 3);
        check.chosenIs(x, 2, 0, 0);
        Check.fill(x, 50, 0, 255, 510);
        check.due("a rise behind a fall", x.bestRun(), 4);
        check.chosenIs(x, 1, 0, 0);
        Check.fill(x, 50, 256, 300);
        check.due("a rise that begins at 256", x.bestRun(), 3);
        check.chosenIs(x, 0, 0, 0);
        BandMill y = coded(4, 256, 0, 1);
        Check.fill(y, MAX, MIN);
        check.due("modulo 2^32", y.bestRun(), 8);
        check.chosenIs(y, 0, 0, 0);
    }

    private static void bestRunNone() {
        BandMill x = new BandMill();
        x.coding(1, 256, 0, 0);
        x.coding(1, 256, 1, 0);
        Check.fill(x, -1, 200, -1);
        check.due("neither by one nor by two", x.bestRun(), -1);
        Check.fill(x, 200, -1, 200);
        check.due("neither by one nor by two", x.bestRun(), -1);
        Check.fill(x, 256);
        check.due("a number that none has", x.bestRun(), -1);
        Check.fill(x, 200, -1);
        check.due("by two", x.bestRun(), 2);
        BandMill y = new BandMill();
        Check.fill(y, 1);
        check.due("no coding", y.bestRun(), -1);
    }

    private static void chosenOfLatest() {
        BandMill x = new BandMill();
        x.coding(2, 256, 0, 0);
        x.coding(1, 256, 0, 0);
        Check.fill(x, 1, 300);
        x.bestRun();
        Check.fill(x, 300, 301, 1);
        x.coding(1, 1, 0, 0);
        x.best(0, 1);
        x.pack(0);
        x.unpack(0, 1);
        check.chosenIs(x, 1, 1, 0);
        x.clear();
        x.bestRun();
        check.chosenIs(x, 0, 0, 0);
    }

    private static void chosenNoneSuch() {
        BandMill x = coded(1, 256, 0, 0);
        Check.fill(x, 1);
        x.bestRun();
        check.chosenIs(x, 0, 0, 0);
        Check.fill(x, 256);
        x.bestRun();
        check.chosenIs(x, -1, -1, -1);
        x.clear();
        check.chosenIs(x, -1, -1, -1);
    }

    private static void chosenNoneYet() {
        BandMill x = new BandMill();
        check.chosenIs(x, -1, -1, -1);
        x.coding(1, 256, 0, 0);
        x.run(0, 0, 0);
        x.number(1);
        x.best(0, 1);
        check.chosenIs(x, -1, -1, -1);
    }

    private static void chosenWhat() {
        BandMill x = coded(1, 256, 0, 0);
        for (int what : new int[] {-1, 3, MIN, MAX}) {
            check.badArgument(x, "chosen(" + what + ") of none yet", () -> x.chosen(what));
        }
        x.bestRun();
        for (int what : new int[] {-1, 3, MIN, MAX}) {
            check.badArgument(x, "chosen(" + what + ")", () -> x.chosen(what));
        }
    }

    private static void feedAny() {
        BandMill x = new BandMill();
        check.due("feed", x.feed(0x01020304), 4);
        check.due("feed", x.feed(0), 8);
        check.due("feed", x.feed(-1), 12);
        check.due("feed", x.feed(MIN), 16);
        check.due("feed", x.feed(MAX), 20);
        check.tapeIs(x, 1, 2, 3, 4, 0, 0, 0, 0, 255, 255, 255, 255, 128, 0, 0, 0, 127, 255, 255, 255);
        check.due("about(3)", x.about(3), 0);
    }

    private static void feedFull() {
        for (int bytes = 7997; bytes <= 8000; bytes++) {
            BandMill x = Check.filledTo(bytes);
            check.badState(x, "feed on " + bytes, () -> x.feed(0x01020304));
        }
        BandMill y = Check.filledTo(7996);
        check.due("feed on 7996", y.feed(0x01020304), 8000);
        check.due("the last bytes", Check.list(y.tape(7996), y.tape(7999), y.tape(8000)), Check.list(1, 4, -1));
        check.badState(y, "feed on 8000", () -> y.feed(0));
        y.end(7995);
        check.due("feed on 7995", y.feed(0x05060708), 7999);
        check.due("the last byte", y.tape(7998), 8);
    }

    private static void endNoneAll() {
        BandMill x = new BandMill();
        x.end(0);
        aboutIs(x, 0, 0, 0, 0);
        x.feed(0x01020304);
        x.end(4);
        check.tapeIs(x, 1, 2, 3, 4);
        x.end(3);
        check.tapeIs(x, 1, 2, 3);
        check.due("tape(3)", x.tape(3), -1);
        x.feed(0x05060708);
        check.tapeIs(x, 1, 2, 3, 5, 6, 7, 8);
        x.end(0);
        check.tapeIs(x);
        check.due("tape(0)", x.tape(0), -1);
        BandMill full = Check.filledTo(8000);
        full.end(8000);
        check.due("about(2)", full.about(2), 8000);
    }

    private static void endMovesReading() {
        BandMill x = new BandMill();
        x.feed(0x01020304);
        x.seek(3);
        x.end(4);
        aboutIs(x, 0, 0, 4, 3);
        x.end(3);
        aboutIs(x, 0, 0, 3, 3);
        x.end(2);
        aboutIs(x, 0, 0, 2, 2);
        x.feed(0);
        aboutIs(x, 0, 0, 6, 2);
        x.end(0);
        aboutIs(x, 0, 0, 0, 0);
        BandMill y = coded(1, 256, 0, 0);
        y.feed(0x01020304);
        y.seek(4);
        y.end(1);
        y.feed(0x05060708);
        check.due("unpack(0, 1)", y.unpack(0, 1), 1);
        check.rowIs(y, 5);
    }

    private static void endTooMany() {
        BandMill x = new BandMill();
        for (int n : new int[] {1, 2, 8000, 8001, MAX}) {
            check.badArgument(x, "end(" + n + ") of an empty tape", () -> x.end(n));
        }
        x.feed(0x01020304);
        for (int n : new int[] {5, 8000, 8001, MAX}) {
            check.badArgument(x, "end(" + n + ") of four bytes", () -> x.end(n));
        }
        BandMill full = Check.filledTo(8000);
        check.badArgument(full, "end(8001) of 8000", () -> full.end(8001));
    }

    private static void endBelowZero() {
        BandMill x = new BandMill();
        for (int n : new int[] {-1, -2, MIN}) {
            check.badArgument(x, "end(" + n + ") of an empty tape", () -> x.end(n));
        }
        x.feed(0x01020304);
        for (int n : new int[] {-1, -4, MIN}) {
            check.badArgument(x, "end(" + n + ")", () -> x.end(n));
        }
    }

    /** Behind the last byte is a place to read from: a tape of i bytes has so many. */
    private static void seekEnds() {
        BandMill x = coded(1, 256, 0, 0);
        check.due("seek(0) of an empty tape", x.seek(0), 0);
        x.feed(0x01020304);
        check.due("seek(4)", x.seek(4), 0);
        check.fault(x, 0, 1, 1, 4);
        check.due("seek(3)", x.seek(3), 4);
        check.due("unpack(0, 1)", x.unpack(0, 1), 1);
        check.rowIs(x, 4);
        check.due("seek(0)", x.seek(0), 4);
        check.due("unpack(0, 1)", x.unpack(0, 1), 1);
        check.rowIs(x, 1);
        check.due("seek(1)", x.seek(1), 1);
        BandMill full = Check.filledTo(8000);
        check.due("seek(8000)", full.seek(8000), 0);
        check.due("seek(7999)", full.seek(7999), 8000);
        check.tapeIs(x, 1, 2, 3, 4);
    }

    private static void seekTooFar() {
        BandMill x = new BandMill();
        for (int i : new int[] {1, 2, 8000, 8001, MAX}) {
            check.badArgument(x, "seek(" + i + ") of an empty tape", () -> x.seek(i));
        }
        x.feed(0x01020304);
        x.seek(2);
        for (int i : new int[] {5, 8000, 8001, MAX}) {
            check.badArgument(x, "seek(" + i + ") of four bytes", () -> x.seek(i));
        }
        x.end(3);
        check.badArgument(x, "seek(4) of three bytes", () -> x.seek(4));
        BandMill full = Check.filledTo(8000);
        check.badArgument(full, "seek(8001) of 8000", () -> full.seek(8001));
    }

    private static void seekBelowZero() {
        BandMill x = new BandMill();
        for (int i : new int[] {-1, -2, MIN}) {
            check.badArgument(x, "seek(" + i + ") of an empty tape", () -> x.seek(i));
        }
        x.feed(0x01020304);
        x.seek(2);
        for (int i : new int[] {-1, -2, MIN}) {
            check.badArgument(x, "seek(" + i + ")", () -> x.seek(i));
        }
    }

    private static void noSuchByte() {
        BandMill x = coded(1, 256, 0, 0);
        for (int i : new int[] {-1, 0, 1, 7999, 8000, MIN, MAX}) {
            check.due("tape(" + i + ") of an empty tape", x.tape(i), -1);
        }
        x.feed(0x01020304);
        for (int i : new int[] {-1, 4, 5, 7999, 8000, 8001, MIN, MAX}) {
            check.due("tape(" + i + ") of four bytes", x.tape(i), -1);
        }
        x.end(2);
        check.due("behind end()", x.tape(2), -1);
        x.number(9);
        x.cost(0);
        check.due("behind cost()", x.tape(2), -1);
        BandMill full = Check.filledTo(8000);
        check.due("the last of 8000", full.tape(7999), 0);
        check.due("behind 8000", full.tape(8000), -1);
    }

    private static void anyByte() {
        BandMill x = coded(1, 256, 0, 0);
        x.feed(0x00FF7F80);
        check.tapeIs(x, 0, 255, 127, 128);
        Check.fill(x, 0, 255);
        x.pack(0);
        check.tapeIs(x, 0, 255, 127, 128, 0, 255);
    }

    private static void traits() {
        BandMill x = coded(1, 1, 0, 0);
        x.coding(5, 256, 2, 1);
        x.run(400, 0, 1);
        x.popular(50, 0, 1, 2);
        int[][] want = {{1, 1, 0, 0}, {5, 256, 2, 1}, {-1, -1, -1, -1}, {-1, -1, -1, -1}};
        for (int way = 0; way < 4; way++) {
            check.due("way " + way, Check.list(x.way(way, 0), x.way(way, 1), x.way(way, 2), x.way(way, 3)),
                    Check.list(want[way]));
        }
    }

    private static void depthTold() {
        BandMill x = deep();
        for (int i = 0; i <= 4; i++) {
            check.due("way(" + i + ", 4)", x.way(i, 4), i);
        }
    }

    private static void wayWhat() {
        BandMill x = deep();
        for (int what : new int[] {-1, 5, MIN, MAX}) {
            check.badArgument(x, "way(0, " + what + ") of a coding", () -> x.way(0, what));
            check.badArgument(x, "way(1, " + what + ") of a run", () -> x.way(1, what));
            check.badArgument(x, "way(2, " + what + ") of a popular one", () -> x.way(2, what));
            check.badArgument(x, "way(5, " + what + ") of none", () -> x.way(5, what));
        }
    }

    private static void aboutNoneAndMost() {
        BandMill x = new BandMill();
        aboutIs(x, 0, 0, 0, 0);
        BandMill full = Check.filledTo(8000);
        for (int i = 5; i < 40; i++) {
            full.run(1, 0, 0);
        }
        full.seek(8000);
        aboutIs(full, 40, 400, 8000, 8000);
        check.badState(full, "number", () -> full.number(1));
        check.badState(full, "feed", () -> full.feed(1));
        check.badState(full, "coding", () -> full.coding(1, 1, 0, 0));
        List<Integer> state = Check.state(full);
        check.due("asking changes nothing", Check.state(full), state);
    }

    private static void aboutWhat() {
        BandMill x = new BandMill();
        for (int what : new int[] {-1, 4, MIN, MAX}) {
            check.badArgument(x, "about(" + what + ")", () -> x.about(what));
        }
    }
}
