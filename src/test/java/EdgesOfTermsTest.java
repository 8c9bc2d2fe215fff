import java.util.List;
import java.util.TreeMap;

/**
 * Each sentence under "Terms" that names a boundary case, as the promises that speak in it keep it. A test
 * is named by its promise and the sentence, as the document has it, and by the case where the sentence has
 * several.
 */
final class EdgesOfTermsTest {
    private static final int MIN = Integer.MIN_VALUE;
    private static final int MAX = Integer.MAX_VALUE;
    private static final Check check = new Check();

    private EdgesOfTermsTest() {
    }

    public static void main(String[] args) {
        codes();
        numbers();
        ways();
        popularWays();
        reading();
        faults();
        refusedCalls();
        check.finish();
    }

    private static void codes() {
        check.sentence("9 pack", "A CODE is a whole number from 0 on", EdgesOfTermsTest::codesFromZeroOn);
        check.sentence("9 pack", "each but the last is L or more; the last one is below L, or the B-th",
                EdgesOfTermsTest::lastByteWritten);
        check.sentence("10 unpack", "each but the last is L or more; the last one is below L, or the B-th",
                EdgesOfTermsTest::lastByteRead);
        check.sentence("9 pack", "L is 256 - H", "the least H, 1", EdgesOfTermsTest::leastH);
        check.sentence("9 pack", "L is 256 - H", "the greatest H, 256", EdgesOfTermsTest::greatestH);
        check.sentence("9 pack", "or the B-th", "the least B, 1", EdgesOfTermsTest::leastB);
        check.sentence("9 pack, 10 unpack", "(Each code up to a greatest one has just one such row of bytes.)",
                EdgesOfTermsTest::oneRowOfBytes);
        check.sentence("8 cost, 9 pack", "up to a greatest one", EdgesOfTermsTest::beyondTheGreatest);
        check.sentence("8 cost, 9 pack", "Codes of 2^32 and above are none.", EdgesOfTermsTest::noSuchCodeWritten);
        check.sentence("10 unpack", "Codes of 2^32 and above are none.", EdgesOfTermsTest::noSuchCodeRead);
    }

    private static void numbers() {
        check.sentence("8 cost, 9 pack", "S 0: itself, if it is below 2^31.", EdgesOfTermsTest::plainWritten);
        check.sentence("10 unpack", "S 0: itself, if it is below 2^31.", EdgesOfTermsTest::plainRead);
        check.sentence("9 pack", "if the code and 1 is a multiple of 2^S: minus that by 2^S",
                EdgesOfTermsTest::belowZeroWritten);
        check.sentence("10 unpack", "if the code and 1 is a multiple of 2^S: minus that by 2^S",
                EdgesOfTermsTest::belowZeroRead);
        check.sentence("9 pack", "otherwise the code less what it is by 2^S (cut off), if that is below 2^31.",
                EdgesOfTermsTest::fromZeroOnWritten);
        check.sentence("10 unpack", "otherwise the code less what it is by 2^S (cut off), if that is below 2^31.",
                EdgesOfTermsTest::fromZeroOnRead);
        check.sentence("9 pack, 10 unpack", "each number's difference from the one before it (of 0 for the first)",
                EdgesOfTermsTest::firstDifference);
        check.sentence("8 cost, 9 pack", "modulo 2^32 as a number of 32 bits", EdgesOfTermsTest::wrapWritten);
        check.sentence("10 unpack", "modulo 2^32 as a number of 32 bits", EdgesOfTermsTest::wrapRead);
        check.sentence("8 cost, 10 unpack", "is told so in its place", EdgesOfTermsTest::differenceThatIsNoNumber);
    }

    private static void ways() {
        check.sentence("2 coding", "WAYS are 0 .. 39 at most", EdgesOfTermsTest::fortyWays);
        check.sentence("3 run, 4 popular", "made of those before", EdgesOfTermsTest::madeOfThoseBefore);
        check.sentence("8 cost, 9 pack",
                "the first n (or all, if there are not so many) by the one, all others by the other",
                EdgesOfTermsTest::runWritten);
        check.sentence("10 unpack", "of a RUN as many by the first as it would have", EdgesOfTermsTest::runRead);
        check.sentence("9 pack", "D begins anew in each such row.", "of a run", EdgesOfTermsTest::runBeginsAnew);
        check.sentence("9 pack, 10 unpack", "D begins anew in each such row.", "of a popular one",
                EdgesOfTermsTest::popularBeginsAnew);
        check.sentence("8 cost, 9 pack", "A way CAN'T write a row if it comes to a number (a token, how many"
                + " favourites) that a coding does not have.", EdgesOfTermsTest::cannotWrite);
        check.sentence("8 cost, 9 pack", "if it comes to a number", "and not if it does not come to it",
                EdgesOfTermsTest::doesNotComeTo);
    }

    private static void popularWays() {
        check.sentence("9 pack", "those numbers that are in the row twice or more", EdgesOfTermsTest::twiceOrMore);
        check.sentence("9 pack", "the most frequent first", EdgesOfTermsTest::mostFrequentFirst);
        check.sentence("9 pack", "of as frequent ones that first which comes first", EdgesOfTermsTest::asFrequent);
        check.sentence("9 pack", "m at most", EdgesOfTermsTest::atMostM);
        check.sentence("9 pack", "m (1 .. 50)", "the greatest", EdgesOfTermsTest::atMostFifty);
        check.sentence("8 cost, 9 pack", "how many they are, a row of one number", "of an empty row",
                EdgesOfTermsTest::howManyOfAnEmptyRow);
        check.sentence("9 pack", "and then they themselves, a row as well", "an empty one",
                EdgesOfTermsTest::noFavouritesByPopular);
        check.sentence("9 pack", "one for each number: which favourite it is (1, 2, ..), or 0",
                EdgesOfTermsTest::tokens);
        check.sentence("9 pack", "then those that are none by the third", EdgesOfTermsTest::noOthers);
    }

    private static void reading() {
        check.sentence("10 unpack", "how many favourites, the favourites, as many tokens as numbers", "none",
                EdgesOfTermsTest::readNoNumbers);
        check.sentence("10 unpack", "how many favourites, the favourites, as many tokens as numbers", "400",
                EdgesOfTermsTest::readAFullRow);
        check.sentence("10 unpack", "as many others as there are tokens 0", EdgesOfTermsTest::readOthers);
        check.sentence("10 unpack", "(Whether favourites are rightly chosen is no matter.)",
                EdgesOfTermsTest::favouritesWronglyChosen);
    }

    private static void faults() {
        check.sentence("10 unpack, 11 place", "FAULT 1: the tape ends", EdgesOfTermsTest::tapeEnds);
        check.sentence("10 unpack, 11 place", "at the first byte of that code.", "FAULT 1",
                EdgesOfTermsTest::tapeEndsInsideCode);
        check.sentence("10 unpack, 11 place", "FAULT 1: the tape ends", "in each row of a popular one",
                EdgesOfTermsTest::tapeEndsInPopular);
        check.sentence("10 unpack, 11 place", "2: a code that is no number; at the first byte of that code.",
                EdgesOfTermsTest::codeThatIsNoNumber);
        check.sentence("10 unpack, 11 place", "FAULT 1: the tape ends", "inside a code that would be too great",
                EdgesOfTermsTest::tapeEndsInsideGreatCode);
        check.sentence("10 unpack, 11 place", "FAULT 3: there are not 0 .. m favourites",
                EdgesOfTermsTest::wrongHowMany);
        check.sentence("10 unpack, 11 place", "or a token is not 0 up to how many there are",
                EdgesOfTermsTest::wrongToken);
        check.sentence("10 unpack, 11 place", "found behind that row", "another fault in it comes first",
                EdgesOfTermsTest::foundBehindTheRow);
        check.sentence("10 unpack, 11 place", "found behind that row, at its first byte.",
                EdgesOfTermsTest::rowsFirstByte);
    }

    private static void refusedCalls() {
        check.sentence("2 to 20", "A call that throws changes nothing", EdgesOfTermsTest::throwingChangesNothing);
        check.sentence("2, 3, 4, 9", "of several exceptions that fit the one named first is thrown.",
                EdgesOfTermsTest::theOneNamedFirst);
        check.sentence("3, 4, 8, 9, 10, 12, 19", "IllegalArgumentException: there is no such way",
                EdgesOfTermsTest::noSuchWay);
    }

    private static BandMill coded(int b, int h, int s, int d) {
        BandMill x = new BandMill();
        x.coding(b, h, s, d);
        return x;
    }

    private static int[] bytes(int... values) {
        return values;
    }

    /** Way 0 of the mill writes this one number so. */
    private static void writes(BandMill x, int number, int... bytes) {
        x.end(0);
        Check.fill(x, number);
        check.due("cost of " + number, x.cost(0), bytes.length);
        check.due("pack of " + number, x.pack(0), bytes.length);
        check.tapeIs(x, bytes);
    }

    private static void cannot(BandMill x, int way, int... row) {
        Check.fill(x, row);
        List<Integer> tape = Check.tape(x);
        check.due("cost of " + Check.list(row), x.cost(way), -1);
        check.due("pack of " + Check.list(row), x.pack(way), -1);
        check.due("the tape behind it", Check.tape(x), tape);
    }

    /** Way 0 of the mill reads just these bytes as this number. */
    private static void reads(BandMill x, int number, int... bytes) {
        Check.load(x, bytes);
        check.due("unpack of " + Check.list(bytes), x.unpack(0, 1), bytes.length);
        check.rowIs(x, number);
    }

    private static void isNoNumber(BandMill x, int... bytes) {
        Check.load(x, bytes);
        check.fault(x, 0, 1, 2, 0);
    }

    private static void codesFromZeroOn() {
        for (int b = 1; b <= 5; b++) {
            BandMill x = coded(b, 128, 0, 0);
            writes(x, 0, 0);
            cannot(x, 0, -1);
            cannot(x, 0, MIN);
        }
    }

    private static void lastByteWritten() {
        BandMill x = coded(3, 64, 0, 0);
        writes(x, 191, 191);
        writes(x, 192, 192, 0);
        writes(x, 255, 255, 0);
        writes(x, 256, 192, 1);
        writes(x, 192 + 191 * 64, 192, 191);
        writes(x, 255 + 191 * 64, 255, 191);
        writes(x, 192 + 192 * 64, 192, 192, 0);
        writes(x, 192 + 192 * 64 + 191 * 4096, 192, 192, 191);
        writes(x, 192 + 192 * 64 + 192 * 4096, 192, 192, 192);
        writes(x, 255 + 255 * 64 + 255 * 4096, 255, 255, 255);
    }

    private static void lastByteRead() {
        BandMill x = coded(3, 64, 0, 0);
        Check.load(x, 191, 192, 0, 192, 191, 192, 192, 191, 255, 255, 255, 0, 7);
        check.due("unpack(0, 6)", x.unpack(0, 6), 12);
        check.rowIs(x, 191, 192, 192 + 191 * 64, 192 + 192 * 64 + 191 * 4096, 255 + 255 * 64 + 255 * 4096, 0);
    }

    private static void leastH() {
        BandMill x = coded(5, 1, 0, 0);
        writes(x, 254, 254);
        writes(x, 255, 255, 0);
        writes(x, 255 + 254, 255, 254);
        writes(x, 255 + 255, 255, 255, 0);
        writes(x, 4 * 255, 255, 255, 255, 255, 0);
        writes(x, 5 * 255, 255, 255, 255, 255, 255);
        cannot(x, 0, 5 * 255 + 1);
        reads(x, 254, 254);
        reads(x, 255, 255, 0);
        reads(x, 5 * 255, 255, 255, 255, 255, 255);
    }

    private static void greatestH() {
        for (int b = 1; b <= 5; b++) {
            BandMill x = coded(b, 256, 0, 0);
            int[] nought = new int[b];
            writes(x, 0, nought);
            reads(x, 0, nought);
            int[] low = new int[b];
            low[0] = 255;
            writes(x, 255, low);
            reads(x, 255, low);
        }
        writes(coded(3, 256, 0, 0), 0xABCDEF, 0xEF, 0xCD, 0xAB);
        reads(coded(3, 256, 0, 0), 0xABCDEF, 0xEF, 0xCD, 0xAB);
    }

    private static void leastB() {
        for (int h : new int[] {1, 2, 128, 255, 256}) {
            BandMill x = coded(1, h, 0, 0);
            for (int code : new int[] {0, 127, 254, 255}) {
                writes(x, code, code);
                reads(x, code, code);
            }
            cannot(x, 0, 256);
        }
    }

    private static void oneRowOfBytes() {
        for (int h : new int[] {1, 2, 3, 64, 128, 254, 255, 256}) {
            TreeMap<Integer, int[]> rows = rowsOfTwoBytesAtMost(h);
            check.due("how many codes of H " + h, rows.size(), 256 + 255 * h);
            check.due("the least of H " + h, (int) rows.firstKey(), 0);
            check.due("the greatest of H " + h, (int) rows.lastKey(), 255 + 255 * h);
            for (int code = 0; code <= rows.lastKey(); code += 100) {
                sameRows(h, rows, code, Math.min(code + 99, rows.lastKey()));
            }
        }
    }

    /** All rows of bytes that the document's sentence lets stand, by their code. */
    private static TreeMap<Integer, int[]> rowsOfTwoBytesAtMost(int h) {
        TreeMap<Integer, int[]> rows = new TreeMap<>();
        for (int one = 0; one < 256; one++) {
            if (one < 256 - h) {
                rows.put(one, bytes(one));
                continue;
            }
            for (int two = 0; two < 256; two++) {
                rows.put(one + two * h, bytes(one, two));
            }
        }
        return rows;
    }

    private static void sameRows(int h, TreeMap<Integer, int[]> rows, int from, int to) {
        BandMill x = coded(2, h, 0, 0);
        int length = 0;
        for (int code = from; code <= to; code++) {
            x.number(code);
            length += rows.get(code).length;
        }
        List<Integer> row = Check.row(x);
        check.due("pack from " + from, x.pack(0), length);
        int at = 0;
        for (int code = from; code <= to; code++) {
            for (int value : rows.get(code)) {
                check.due("a byte of code " + code + " of H " + h, x.tape(at), value);
                at++;
            }
        }
        x.clear();
        check.due("unpack from " + from, x.unpack(0, row.size()), length);
        check.due("row", Check.row(x), row);
    }

    private static void beyondTheGreatest() {
        for (int b = 1; b <= 5; b++) {
            for (int h : new int[] {1, 2, 16, 64, 128, 200, 256}) {
                long greatest = 0;
                long weight = 1;
                int[] all = new int[b];
                for (int i = 0; i < b; i++) {
                    greatest += 255 * weight;
                    weight *= h;
                    all[i] = 255;
                }
                if (greatest < MAX) {
                    BandMill x = coded(b, h, 0, 0);
                    writes(x, (int) greatest, all);
                    cannot(x, 0, (int) greatest + 1);
                    cannot(x, 0, MAX);
                }
            }
        }
    }

    /** Only S 2 has numbers of 32 bits whose codes would be so great. */
    private static void noSuchCodeWritten() {
        BandMill x = coded(5, 256, 2, 0);
        writes(x, -(1 << 30), 255, 255, 255, 255, 0);
        cannot(x, 0, -(1 << 30) - 1);
        cannot(x, 0, -(1 << 30) - 2);
        cannot(x, 0, MIN);
        writes(coded(5, 256, 1, 0), MIN, 255, 255, 255, 255, 0);
        BandMill y = coded(5, 256, 2, 1);
        Check.fill(y, 5, 5 - (1 << 30));
        check.due("a difference of the greatest code", y.cost(0), 10);
        cannot(y, 0, 5, 4 - (1 << 30));
    }

    private static void noSuchCodeRead() {
        BandMill x = coded(5, 256, 2, 0);
        reads(x, -(1 << 30), 255, 255, 255, 255, 0);
        isNoNumber(x, 0, 0, 0, 0, 1);
        isNoNumber(x, 3, 0, 0, 0, 1);
        isNoNumber(x, 255, 255, 255, 255, 255);
        BandMill y = coded(5, 256, 1, 0);
        reads(y, MIN, 255, 255, 255, 255, 0);
        isNoNumber(y, 0, 0, 0, 0, 1);
        isNoNumber(y, 1, 0, 0, 0, 1);
        isNoNumber(y, 255, 255, 255, 255, 255);
        BandMill z = coded(5, 256, 0, 0);
        isNoNumber(z, 0, 0, 0, 0, 1);
        isNoNumber(z, 5, 0, 0, 0, 2);
        isNoNumber(z, 255, 255, 255, 255, 255);
    }

    private static void plainWritten() {
        BandMill x = coded(5, 256, 0, 0);
        writes(x, 0, 0, 0, 0, 0, 0);
        writes(x, MAX, 255, 255, 255, 127, 0);
        cannot(x, 0, -1);
        cannot(x, 0, MIN);
    }

    private static void plainRead() {
        BandMill x = coded(4, 256, 0, 0);
        reads(x, MAX, 255, 255, 255, 127);
        isNoNumber(x, 0, 0, 0, 128);
        isNoNumber(x, 255, 255, 255, 255);
    }

    private static void belowZeroWritten() {
        BandMill one = coded(4, 256, 1, 0);
        writes(one, -1, 1, 0, 0, 0);
        writes(one, -2, 3, 0, 0, 0);
        writes(one, MIN, 255, 255, 255, 255);
        writes(one, MIN + 1, 253, 255, 255, 255);
        BandMill two = coded(4, 256, 2, 0);
        writes(two, -1, 3, 0, 0, 0);
        writes(two, -2, 7, 0, 0, 0);
        writes(two, -(1 << 30), 255, 255, 255, 255);
        writes(two, 1 - (1 << 30), 251, 255, 255, 255);
    }

    private static void belowZeroRead() {
        BandMill one = coded(4, 256, 1, 0);
        reads(one, -1, 1, 0, 0, 0);
        reads(one, -2, 3, 0, 0, 0);
        reads(one, MIN, 255, 255, 255, 255);
        BandMill two = coded(4, 256, 2, 0);
        reads(two, -1, 3, 0, 0, 0);
        reads(two, -2, 7, 0, 0, 0);
        reads(two, -(1 << 30), 255, 255, 255, 255);
        reads(two, 1 - (1 << 30), 251, 255, 255, 255);
    }

    private static void fromZeroOnWritten() {
        BandMill one = coded(4, 256, 1, 0);
        writes(one, 0, 0, 0, 0, 0);
        writes(one, 1, 2, 0, 0, 0);
        writes(one, MAX, 254, 255, 255, 255);
        BandMill two = coded(4, 256, 2, 0);
        writes(two, 0, 0, 0, 0, 0);
        writes(two, 1, 1, 0, 0, 0);
        writes(two, 2, 2, 0, 0, 0);
        writes(two, 3, 4, 0, 0, 0);
        writes(two, 5, 6, 0, 0, 0);
        writes(two, 6, 8, 0, 0, 0);
        writes(two, MAX, 0xA9, 0xAA, 0xAA, 0xAA);
        writes(two, MAX - 1, 0xA8, 0xAA, 0xAA, 0xAA);
    }

    private static void fromZeroOnRead() {
        BandMill one = coded(4, 256, 1, 0);
        reads(one, 0, 0, 0, 0, 0);
        reads(one, 1, 2, 0, 0, 0);
        reads(one, MAX, 254, 255, 255, 255);
        BandMill two = coded(4, 256, 2, 0);
        reads(two, 2, 2, 0, 0, 0);
        reads(two, 3, 4, 0, 0, 0);
        reads(two, 5, 6, 0, 0, 0);
        reads(two, 6, 8, 0, 0, 0);
        reads(two, MAX, 0xA9, 0xAA, 0xAA, 0xAA);
        isNoNumber(two, 0xAA, 0xAA, 0xAA, 0xAA);
        reads(two, -0x2AAAAAAB, 0xAB, 0xAA, 0xAA, 0xAA);
        isNoNumber(two, 0xAC, 0xAA, 0xAA, 0xAA);
        isNoNumber(two, 254, 255, 255, 255);
    }

    private static void firstDifference() {
        BandMill x = coded(1, 256, 1, 1);
        writes(x, 5, 10);
        writes(x, -5, 9);
        reads(x, 5, 10);
        reads(x, -5, 9);
        x.end(0);
        Check.fill(x, 100, 101, 101, 90);
        check.due("pack(0)", x.pack(0), 4);
        check.tapeIs(x, 200, 2, 0, 21);
        x.clear();
        check.due("unpack(0, 4)", x.unpack(0, 4), 4);
        check.rowIs(x, 100, 101, 101, 90);
        Check.load(x, 2, 2, 2);
        x.unpack(0, 2);
        check.due("each unpack begins with 0", x.unpack(0, 1), 1);
        check.rowIs(x, 1);
    }

    private static void wrapWritten() {
        BandMill x = coded(4, 256, 0, 1);
        Check.fill(x, MAX, MIN, MIN, -1);
        check.due("rising all along", x.pack(0), 16);
        check.tapeIs(x, 255, 255, 255, 127, 1, 0, 0, 0, 0, 0, 0, 0, 255, 255, 255, 127);
        cannot(x, 0, MIN);
        cannot(x, 0, 1, 1 + MIN);
        cannot(x, 0, 0, MIN);
        cannot(x, 0, MAX, MIN, MAX);
        BandMill y = coded(4, 256, 1, 1);
        Check.fill(y, MIN, MAX, MIN, 0, MIN, 1);
        check.due("by S 1", y.pack(0), 24);
        check.tapeIs(y, 255, 255, 255, 255, 1, 0, 0, 0, 2, 0, 0, 0, 255, 255, 255, 255, 255, 255, 255, 255,
                253, 255, 255, 255);
    }

    private static void wrapRead() {
        BandMill x = coded(4, 256, 0, 1);
        Check.load(x, 255, 255, 255, 127, 1, 0, 0, 0, 0, 0, 0, 0, 255, 255, 255, 127, 2, 0, 0, 0);
        check.due("unpack(0, 5)", x.unpack(0, 5), 20);
        check.rowIs(x, MAX, MIN, MIN, -1, 1);
        BandMill y = coded(4, 256, 1, 1);
        Check.load(y, 255, 255, 255, 255, 1, 0, 0, 0, 2, 0, 0, 0, 255, 255, 255, 255, 254, 255, 255, 255,
                254, 255, 255, 255);
        check.due("unpack(0, 6)", y.unpack(0, 6), 24);
        check.rowIs(y, MIN, MAX, MIN, 0, MAX, -2);
    }

    private static void differenceThatIsNoNumber() {
        BandMill x = coded(4, 256, 0, 1);
        cannot(x, 0, 5, 4);
        Check.load(x, 5, 0, 0, 0, 0, 0, 0, 128);
        check.fault(x, 0, 2, 2, 4);
        BandMill y = coded(1, 256, 0, 1);
        Check.fill(y, 255, 510);
        check.due("differences of a byte", y.cost(0), 2);
        cannot(y, 0, 255, 511);
    }

    private static void fortyWays() {
        BandMill x = new BandMill();
        for (int i = 0; i < 40; i++) {
            check.due("coding " + i, x.coding(1 + i % 5, 1 + i, i % 3, i % 2), i);
        }
        check.badState(x, "one more", () -> x.coding(1, 1, 0, 0));
        for (int i = 0; i < 40; i++) {
            check.due("B of way " + i, x.way(i, 0), 1 + i % 5);
            check.due("H of way " + i, x.way(i, 1), 1 + i);
        }
        x.number(1);
        check.due("way 39 writes", x.pack(39), 1);
        x.clear();
        check.due("way 39 reads", x.unpack(39, 1), 1);
        check.due("best(39, 39)", x.best(39, 39), 39);
        check.badArgument(x, "cost(40)", () -> x.cost(40));
        check.badArgument(x, "way(40, 4)", () -> x.way(40, 4));
    }

    private static void madeOfThoseBefore() {
        BandMill x = coded(1, 256, 0, 0);
        check.badArgument(x, "a run of itself", () -> x.run(1, 1, 0));
        check.badArgument(x, "a run of itself", () -> x.run(1, 0, 1));
        check.badArgument(x, "a popular one of itself", () -> x.popular(1, 1, 0, 0));
        check.badArgument(x, "a popular one of itself", () -> x.popular(1, 0, 1, 0));
        check.badArgument(x, "a popular one of itself", () -> x.popular(1, 0, 0, 1));
        check.due("a run of the one before", x.run(1, 0, 0), 1);
        check.due("a popular one of those before", x.popular(1, 1, 0, 1), 2);
    }

    private static BandMill runsOfThree() {
        BandMill x = new BandMill();
        x.coding(1, 256, 0, 0);
        x.coding(2, 256, 0, 0);
        for (int n : new int[] {0, 2, 3, 4, 400}) {
            x.run(n, 0, 1);
        }
        return x;
    }

    private static void runWritten() {
        BandMill x = runsOfThree();
        Check.fill(x, 7, 8, 9);
        check.due("costs", Check.list(x.cost(2), x.cost(3), x.cost(4), x.cost(5), x.cost(6)),
                Check.list(6, 4, 3, 3, 3));
        x.pack(2);
        check.tapeIs(x, 7, 0, 8, 0, 9, 0);
        x.end(0);
        x.pack(3);
        check.tapeIs(x, 7, 8, 9, 0);
        x.end(0);
        x.pack(4);
        check.tapeIs(x, 7, 8, 9);
        x.end(0);
        x.pack(5);
        check.tapeIs(x, 7, 8, 9);
        x.clear();
        check.due("an empty row", Check.list(x.cost(2), x.cost(3), x.cost(6)), Check.list(0, 0, 0));
        BandMill y = Check.filledTo(0);
        y.run(400, 0, 1);
        y.run(399, 0, 1);
        y.run(1, 0, 1);
        check.due("400 numbers", Check.list(y.cost(5), y.cost(6), y.cost(7)), Check.list(400, 401, 799));
    }

    private static void runRead() {
        int[] taken = {6, 4, 3, 3, 3};
        for (int way = 2; way < 7; way++) {
            BandMill x = runsOfThree();
            Check.fill(x, 7, 8, 9);
            x.pack(way);
            x.clear();
            check.due("unpack(" + way + ", 3)", x.unpack(way, 3), taken[way - 2]);
            check.rowIs(x, 7, 8, 9);
            check.due("none", x.unpack(way, 0), 0);
            x.seek(0);
            check.due("one number by way " + way, x.unpack(way, 1), way == 2 ? 2 : 1);
            check.rowIs(x, 7);
        }
    }

    private static void runBeginsAnew() {
        BandMill x = coded(1, 256, 0, 1);
        x.run(2, 0, 0);
        x.run(3, 1, 0);
        Check.fill(x, 10, 12, 11, 30);
        check.due("pack(1)", x.pack(1), 4);
        check.tapeIs(x, 10, 2, 11, 19);
        x.clear();
        check.due("unpack(1, 4)", x.unpack(1, 4), 4);
        check.rowIs(x, 10, 12, 11, 30);
        check.due("a run in a run's first part", x.cost(2), 4);
        x.end(0);
        x.pack(2);
        check.tapeIs(x, 10, 2, 11, 30);
        cannot(x, 1, 10, 9, 11, 30);
    }

    private static void popularBeginsAnew() {
        BandMill x = coded(1, 256, 1, 1);
        x.popular(3, 0, 0, 0);
        Check.fill(x, 40, 40, 40, 50, 50, 7, 9);
        check.due("pack(1)", x.pack(1), 1 + 2 + 7 + 2);
        check.tapeIs(x, 4, 80, 20, 2, 0, 0, 2, 0, 3, 0, 14, 4);
        x.clear();
        check.due("unpack(1, 7)", x.unpack(1, 7), 12);
        check.rowIs(x, 40, 40, 40, 50, 50, 7, 9);
        BandMill y = coded(1, 256, 0, 1);
        y.popular(3, 0, 0, 0);
        Check.fill(y, 0, 0);
        check.due("how many, 1, and the favourite 0 behind it are two rows", y.pack(1), 4);
        check.tapeIs(y, 1, 0, 1, 0);
        y.end(0);
        Check.fill(y, 3, 9, 9);
        check.due("the others begin anew behind the tokens", y.pack(1), 6);
        check.tapeIs(y, 1, 9, 0, 1, 0, 3);
    }

    /** How many favourites there are, 50 at most, is a number that every coding has. */
    private static void cannotWrite() {
        BandMill x = new BandMill();
        x.coding(1, 256, 0, 0);
        x.coding(1, 256, 0, 1);
        x.coding(5, 64, 1, 0);
        x.popular(4, 0, 2, 2);
        x.popular(4, 2, 1, 2);
        x.popular(4, 2, 2, 0);
        x.run(2, 2, 0);
        x.run(2, 0, 2);
        cannot(x, 0, 255, 256);
        cannot(x, 0, 256);
        cannot(x, 3, 256, 256);
        cannot(x, 4, 5, 5, 6);
        cannot(x, 5, 5, 5, 256);
        cannot(x, 6, 300, 300, 300);
        cannot(x, 7, 1, 300, 300);
        Check.fill(x, 255, 255);
        check.due("favourites that it has", x.cost(3), 1 + 1 + 2);
        Check.fill(x, 6, 5, 5);
        check.due("tokens 0, 1, 1", x.cost(4), 1 + 1 + 3 + 1);
        Check.fill(x, 5, 5, 255);
        check.due("others that it has", x.cost(5), 1 + 1 + 3 + 1);
        for (int h = 1; h <= 256; h += 51) {
            for (int s = 0; s < 3; s++) {
                BandMill y = coded(1, h, s, 0);
                y.coding(5, 64, 1, 0);
                y.popular(50, 0, 1, 1);
                for (int i = 0; i < 400; i++) {
                    y.number(i % 50);
                }
                check.due("50 favourites", y.cost(2), 1 + 50 + 400);
            }
        }
    }

    private static void doesNotComeTo() {
        BandMill x = new BandMill();
        x.coding(5, 64, 1, 0);
        x.coding(1, 1, 0, 0);
        x.run(400, 0, 1);
        x.run(0, 1, 0);
        x.run(2, 0, 1);
        x.popular(4, 1, 0, 0);
        x.popular(4, 0, 0, 1);
        Check.fill(x, -3, 5000);
        check.due("no others", x.cost(2), 1 + 2);
        check.due("no first ones", x.cost(3), 1 + 2);
        check.due("just the first ones", x.cost(4), 1 + 2);
        check.due("no favourites", x.cost(5), 1 + 2 + 1 + 2);
        Check.fill(x, -3, -3);
        check.due("none but favourites", x.cost(6), 1 + 1 + 2);
        x.clear();
        check.due("an empty row", Check.list(x.cost(0), x.cost(1), x.cost(2)), Check.list(0, 0, 0));
    }

    /** Way 1 is a popular one of the coding 0, of one byte each. */
    private static BandMill popularOf(int m) {
        BandMill x = coded(1, 256, 0, 0);
        x.popular(m, 0, 0, 0);
        return x;
    }

    private static void packsAs(BandMill x, int[] row, int... tape) {
        x.end(0);
        Check.fill(x, row);
        check.due("cost", x.cost(1), tape.length);
        check.due("pack", x.pack(1), tape.length);
        check.tapeIs(x, tape);
        x.clear();
        x.seek(0);
        check.due("unpack", x.unpack(1, row.length), tape.length);
        check.rowIs(x, row);
    }

    private static void twiceOrMore() {
        BandMill x = popularOf(50);
        packsAs(x, bytes(9), 0, 0, 9);
        packsAs(x, bytes(9, 8, 7), 0, 0, 0, 0, 9, 8, 7);
        packsAs(x, bytes(9, 8, 9), 1, 9, 1, 0, 1, 8);
        packsAs(x, bytes(9, 9), 1, 9, 1, 1);
        packsAs(x, bytes(0, 5, 0), 1, 0, 1, 0, 1, 5);
    }

    private static void mostFrequentFirst() {
        BandMill x = popularOf(50);
        packsAs(x, bytes(4, 4, 5, 5, 5), 2, 5, 4, 2, 2, 1, 1, 1);
        packsAs(x, bytes(4, 5, 6, 5, 6, 6, 4, 4, 4), 3, 4, 6, 5, 1, 3, 2, 3, 2, 2, 1, 1, 1);
        packsAs(popularOf(1), bytes(4, 4, 5, 5, 5), 1, 5, 0, 0, 1, 1, 1, 4, 4);
    }

    private static void asFrequent() {
        BandMill x = popularOf(50);
        packsAs(x, bytes(7, 6, 6, 7), 2, 7, 6, 1, 2, 2, 1);
        packsAs(x, bytes(3, 7, 6, 6, 7), 2, 7, 6, 0, 1, 2, 2, 1, 3);
        packsAs(x, bytes(2, 9, 1, 1, 9, 2), 3, 2, 9, 1, 1, 2, 3, 3, 2, 1);
        packsAs(popularOf(1), bytes(7, 6, 6, 7), 1, 7, 1, 0, 0, 1, 6, 6);
    }

    private static void atMostM() {
        BandMill x = popularOf(2);
        packsAs(x, bytes(7, 7, 5), 1, 7, 1, 1, 0, 5);
        packsAs(x, bytes(7, 7, 5, 5), 2, 7, 5, 1, 1, 2, 2);
        packsAs(x, bytes(7, 7, 5, 5, 3, 3), 2, 7, 5, 1, 1, 2, 2, 0, 0, 3, 3);
        packsAs(x, bytes(7, 7, 5, 5, 3, 3, 3), 2, 3, 7, 2, 2, 0, 0, 1, 1, 1, 5, 5);
    }

    private static void atMostFifty() {
        for (int kinds = 49; kinds <= 52; kinds++) {
            BandMill x = popularOf(50);
            for (int i = 0; i < 2 * kinds; i++) {
                x.number(100 + i % kinds);
            }
            int known = Math.min(kinds, 50);
            int bytes = 1 + known + 2 * kinds + 2 * (kinds - known);
            List<Integer> row = Check.row(x);
            check.due("pack of " + kinds + " kinds", x.pack(1), bytes);
            check.due("how many", x.tape(0), known);
            check.due("the last favourite", x.tape(known), 100 + known - 1);
            check.due("its token", x.tape(2 * known), known);
            x.clear();
            check.due("unpack", x.unpack(1, 2 * kinds), bytes);
            check.due("row", Check.row(x), row);
        }
        BandMill y = popularOf(50);
        for (int i = 0; i < 400; i++) {
            y.number(i / 2);
        }
        check.due("200 kinds", y.cost(1), 1 + 50 + 400 + 300);
        Check.fill(y, new int[400]);
        check.due("one kind", y.cost(1), 1 + 1 + 400);
    }

    private static void howManyOfAnEmptyRow() {
        BandMill x = popularOf(1);
        packsAs(x, bytes(), 0);
        x.run(2, 0, 1);
        x.run(2, 1, 1);
        Check.fill(x, 5, 6);
        check.due("a run's empty part", x.cost(2), 2 + 1);
        x.clear();
        check.due("two empty parts", x.cost(3), 1 + 1);
    }

    private static void noFavouritesByPopular() {
        BandMill x = coded(1, 256, 0, 0);
        x.popular(3, 0, 0, 0);
        x.popular(3, 1, 0, 0);
        Check.fill(x, 8);
        check.due("pack(2)", x.pack(2), 6);
        check.tapeIs(x, 0, 0, 0, 0, 0, 8);
        x.clear();
        check.due("unpack(2, 1)", x.unpack(2, 1), 6);
        check.rowIs(x, 8);
    }

    private static void tokens() {
        BandMill x = popularOf(3);
        packsAs(x, bytes(1, 2, 3, 3, 2, 1, 0), 3, 1, 2, 3, 1, 2, 3, 3, 2, 1, 0, 0);
        packsAs(x, bytes(2, 1, 1), 1, 1, 0, 1, 1, 2);
        packsAs(x, bytes(5), 0, 0, 5);
    }

    private static void noOthers() {
        BandMill x = new BandMill();
        x.coding(1, 256, 0, 0);
        x.coding(3, 256, 0, 0);
        x.popular(2, 0, 0, 1);
        Check.fill(x, 5, 5, 6, 6);
        check.due("favourites alone", x.cost(2), 1 + 2 + 4);
        x.number(7);
        check.due("and one other", x.cost(2), 1 + 2 + 5 + 3);
        Check.fill(x, 5, 6, 7);
        check.due("others alone", x.cost(2), 1 + 3 + 9);
        x.end(0);
        Check.fill(x, 9, 5, 8, 5, 7);
        x.pack(2);
        check.tapeIs(x, 1, 5, 0, 1, 0, 1, 0, 9, 0, 0, 8, 0, 0, 7, 0, 0);
    }

    private static void readNoNumbers() {
        BandMill x = popularOf(3);
        Check.fill(x, 1, 2);
        Check.load(x, 0, 9);
        check.due("no favourites", x.unpack(1, 0), 1);
        check.rowIs(x);
        check.due("about(3)", x.about(3), 1);
        Check.load(x, 3, 7, 8, 9, 6);
        check.due("three favourites", x.unpack(1, 0), 4);
        check.due("about(3)", x.about(3), 4);
        Check.load(x, 3, 7, 8);
        check.fault(x, 1, 0, 1, 3);
    }

    private static void readAFullRow() {
        BandMill x = popularOf(50);
        for (int kinds : new int[] {1, 2, 50, 51, 200, 256}) {
            x.clear();
            x.end(0);
            for (int i = 0; i < 400; i++) {
                x.number(i % kinds);
            }
            int bytes = x.pack(1);
            List<Integer> row = Check.row(x);
            x.clear();
            check.due("unpack of " + kinds + " kinds", x.unpack(1, 400), bytes);
            check.due("row", Check.row(x), row);
        }
    }

    private static void readOthers() {
        BandMill x = popularOf(3);
        Check.load(x, 1, 7, 1, 1, 1, 99);
        check.due("none", x.unpack(1, 3), 5);
        check.rowIs(x, 7, 7, 7);
        Check.load(x, 1, 7, 0, 0, 0, 99, 98, 97, 96);
        check.due("all", x.unpack(1, 3), 8);
        check.rowIs(x, 99, 98, 97);
        Check.load(x, 1, 7, 0, 1, 0, 99, 98, 97);
        check.due("some", x.unpack(1, 3), 7);
        check.rowIs(x, 99, 7, 98);
    }

    private static void favouritesWronglyChosen() {
        BandMill x = popularOf(3);
        Check.load(x, 3, 7, 7, 7, 3, 0, 1, 7);
        check.due("one number as three favourites and another one", x.unpack(1, 3), 8);
        check.rowIs(x, 7, 7, 7);
        Check.load(x, 2, 5, 6, 2, 2, 1);
        check.due("the less frequent one first", x.unpack(1, 3), 6);
        check.rowIs(x, 6, 6, 5);
        Check.load(x, 1, 5, 0, 0, 8, 8);
        check.due("one that is not there, none that are", x.unpack(1, 2), 6);
        check.rowIs(x, 8, 8);
        Check.load(x, 0, 0, 0, 8, 8);
        check.due("none at all", x.unpack(1, 2), 5);
        check.rowIs(x, 8, 8);
    }

    private static void tapeEnds() {
        BandMill x = coded(1, 256, 0, 0);
        Check.fill(x, 6, 6);
        check.fault(x, 0, 1, 1, 0);
        check.fault(x, 0, 400, 1, 0);
        Check.load(x, 1, 2, 3);
        check.fault(x, 0, 4, 1, 3);
        x.seek(3);
        check.fault(x, 0, 1, 1, 3);
        x.seek(2);
        check.fault(x, 0, 2, 1, 3);
        check.due("as many as there are", x.unpack(0, 1), 1);
        check.due("no number, behind the last byte", x.unpack(0, 0), 0);
        BandMill y = Check.filledTo(8000);
        y.seek(7999);
        check.fault(y, 0, 2, 1, 8000);
        check.fault(y, 1, 1, 1, 7999);
        check.due("the last byte of all", y.unpack(0, 1), 1);
    }

    private static void tapeEndsInsideCode() {
        for (int b = 2; b <= 5; b++) {
            for (int there = 1; there < b; there++) {
                BandMill x = coded(b, 128, 0, 0);
                int[] tape = new int[2 + there];
                tape[0] = 5;
                tape[1] = 6;
                for (int i = 0; i < there; i++) {
                    tape[2 + i] = 128;
                }
                Check.load(x, tape);
                check.fault(x, 0, 3, 1, 2);
                x.seek(2);
                check.fault(x, 0, 1, 1, 2);
                x.seek(1);
                check.due("the number before", x.unpack(0, 1), 1);
            }
        }
        BandMill y = coded(2, 128, 0, 0);
        y.run(1, 0, 0);
        Check.load(y, 200, 1, 200);
        check.fault(y, 1, 2, 1, 2);
    }

    private static void tapeEndsInPopular() {
        BandMill x = new BandMill();
        x.coding(2, 256, 0, 0);
        x.popular(2, 0, 0, 0);
        Check.load(x, 2, 0, 5, 0, 6, 0, 0, 0, 2, 0, 9, 0);
        check.due("whole", x.unpack(1, 2), 12);
        x.seek(0);
        for (int length = 11; length >= 0; length--) {
            x.end(length);
            check.fault(x, 1, 2, 1, length / 2 * 2);
        }
    }

    private static void codeThatIsNoNumber() {
        BandMill x = new BandMill();
        x.coding(4, 256, 0, 0);
        x.run(1, 0, 0);
        x.popular(1, 0, 0, 0);
        int[] bad = {0, 0, 0, 128};
        for (int at = 0; at < 4; at++) {
            int[] tape = {1, 0, 0, 0, 3, 0, 0, 0, 0, 0, 0, 0, 4, 0, 0, 0};
            System.arraycopy(bad, 0, tape, 4 * at, 4);
            Check.load(x, tape);
            check.fault(x, 0, 4, 2, 4 * at);
            check.fault(x, 1, 4, 2, 4 * at);
            check.fault(x, 2, 1, 2, 4 * at);
            x.end(4 * at + 4);
            check.fault(x, 0, 4, 2, 4 * at);
            x.end(4 * at + 3);
            check.fault(x, 0, 4, 1, 4 * at);
        }
        Check.load(x, 0, 0, 0, 128, 0, 0, 0, 128);
        x.seek(4);
        check.fault(x, 0, 1, 2, 4);
        check.due("nothing is read of it", x.unpack(0, 0), 0);
    }

    private static void tapeEndsInsideGreatCode() {
        BandMill x = coded(5, 256, 0, 0);
        Check.load(x, 255, 255, 255, 255);
        check.fault(x, 0, 1, 1, 0);
        BandMill y = coded(5, 255, 0, 0);
        Check.load(y, 255, 255, 255, 255);
        check.fault(y, 0, 1, 1, 0);
        BandMill z = coded(5, 255, 0, 0);
        Check.load(z, 255, 255, 255, 255, 255);
        check.fault(z, 0, 1, 2, 0);
    }

    private static void wrongHowMany() {
        BandMill x = new BandMill();
        x.coding(4, 256, 1, 0);
        x.coding(1, 256, 0, 0);
        x.popular(2, 0, 1, 1);
        x.popular(50, 0, 1, 1);
        x.popular(1, 0, 1, 1);
        howMany(x, 2, 0, true);
        howMany(x, 2, 2, true);
        howMany(x, 2, 3, false);
        howMany(x, 2, -1, false);
        howMany(x, 2, MIN, false);
        howMany(x, 2, MAX, false);
        howMany(x, 3, 50, true);
        howMany(x, 3, 51, false);
        howMany(x, 3, -1, false);
        howMany(x, 4, 1, true);
        howMany(x, 4, 2, false);
        howMany(x, 4, -1, false);
        BandMill y = coded(4, 256, 1, 0);
        y.popular(2, 0, 0, 0);
        Check.load(y, 6, 0, 0, 0);
        check.fault(y, 1, 0, 3, 0);
        check.fault(y, 1, 400, 3, 0);
        Check.load(y, 9, 6, 0, 0, 0);
        y.seek(1);
        check.fault(y, 1, 1, 3, 1);
    }

    /** Reads no numbers by a popular way whose favourites, all 0, stand behind how many they are. */
    private static void howMany(BandMill x, int way, int count, boolean well) {
        int favourites = Math.max(0, Math.min(count, 60));
        x.end(0);
        Check.fill(x, count);
        for (int i = 0; i < favourites; i++) {
            x.number(0);
        }
        x.pack(0);
        x.seek(0);
        if (well) {
            check.due(count + " favourites by way " + way, x.unpack(way, 0), 4 + 4 * count);
            check.due("place()", x.place(), -1);
        } else {
            check.fault(x, way, 0, 3, 0);
        }
    }

    private static void wrongToken() {
        BandMill x = new BandMill();
        x.coding(1, 256, 0, 0);
        x.coding(4, 256, 1, 0);
        x.popular(5, 0, 1, 0);
        for (int token : new int[] {-1, 3, 4, 5, 6, MIN, MAX}) {
            tokenOfTwo(x, token);
            check.fault(x, 2, 1, 3, 3);
        }
        for (int token = 0; token <= 2; token++) {
            tokenOfTwo(x, token);
            check.due("token " + token, x.unpack(2, 1), token == 0 ? 8 : 7);
            check.rowIs(x, token == 0 ? 30 : 9 + token);
        }
        Check.load(x, 0, 0, 0, 0, 0, 30);
        check.due("token 0 without favourites", x.unpack(2, 1), 6);
        Check.load(x, 0, 2, 0, 0, 0, 30);
        check.fault(x, 2, 1, 3, 1);
        check.due("no tokens at all", x.unpack(2, 0), 1);
    }

    /** The favourites 10 and 11, a token of four bytes by S 1, and the other number 30. */
    private static void tokenOfTwo(BandMill x, int token) {
        int code = token >= 0 ? 2 * token : -2 * token - 1;
        Check.load(x, 2, 10, 11, code, code >>> 8, code >>> 16, code >>> 24, 30);
    }

    private static void foundBehindTheRow() {
        BandMill x = new BandMill();
        x.coding(1, 256, 0, 0);
        x.coding(4, 256, 0, 0);
        x.popular(2, 0, 1, 0);
        x.popular(2, 2, 0, 0);
        Check.load(x, 0, 9, 0, 0, 0, 0, 0, 0, 128);
        check.fault(x, 2, 2, 2, 5);
        x.end(8);
        check.fault(x, 2, 2, 1, 5);
        x.end(5);
        check.fault(x, 2, 2, 1, 5);
        check.fault(x, 2, 1, 3, 1);
        Check.load(x, 0, 0, 0, 0, 0, 9, 5);
        check.fault(x, 3, 0, 3, 0);
        x.end(5);
        check.fault(x, 3, 0, 1, 5);
        Check.load(x, 0, 1, 0, 0, 0, 9);
        check.fault(x, 3, 0, 3, 1);
        Check.load(x, 9, 0);
        check.fault(x, 2, 2, 3, 0);
    }

    private static void rowsFirstByte() {
        BandMill x = new BandMill();
        x.coding(1, 256, 0, 0);
        x.coding(2, 128, 0, 0);
        x.run(1, 0, 1);
        x.popular(2, 0, 2, 0);
        Check.load(x, 7, 2, 10, 11, 0, 1, 200, 0, 2);
        x.seek(1);
        check.fault(x, 3, 3, 3, 4);
        check.fault(x, 3, 4, 3, 4);
        check.due("the tokens before it are well", x.unpack(3, 1), 1 + 2 + 1 + 1);
        BandMill y = new BandMill();
        y.coding(1, 256, 0, 0);
        y.popular(2, 0, 0, 0);
        y.popular(2, 1, 1, 1);
        Check.load(y, 5, 0, 0, 7);
        y.seek(1);
        check.fault(y, 2, 0, 3, 1);
        Check.load(y, 0, 0, 1, 0, 0, 10, 0, 0, 2, 9);
        check.fault(y, 2, 1, 3, 6);
    }

    private static BandMill busy() {
        BandMill x = new BandMill();
        x.coding(1, 256, 0, 0);
        x.run(2, 0, 0);
        x.popular(2, 0, 0, 1);
        x.run(1, 2, 0);
        x.run(1, 3, 0);
        Check.fill(x, 5, 6, 5);
        x.feed(0x01020304);
        x.pack(2);
        x.seek(2);
        x.unpack(0, 400);
        x.bestRun();
        return x;
    }

    private static void throwingChangesNothing() {
        BandMill x = busy();
        check.due("place()", x.place(), x.about(2));
        check.chosenIs(x, 0, 0, 0);
        check.badArgument(x, "coding", () -> x.coding(1, 1, 3, 0));
        check.badArgument(x, "run", () -> x.run(401, 0, 0));
        check.badState(x, "run", () -> x.run(1, 4, 0));
        check.badArgument(x, "popular", () -> x.popular(51, 0, 0, 0));
        check.badState(x, "popular", () -> x.popular(1, 0, 4, 0));
        check.badArgument(x, "cost", () -> x.cost(5));
        check.badArgument(x, "pack", () -> x.pack(5));
        check.badArgument(x, "unpack", () -> x.unpack(5, 1));
        check.badArgument(x, "unpack", () -> x.unpack(0, 401));
        check.badArgument(x, "best", () -> x.best(1, 0));
        check.badArgument(x, "chosen", () -> x.chosen(3));
        check.badArgument(x, "end", () -> x.end(x.about(2) + 1));
        check.badArgument(x, "seek", () -> x.seek(x.about(2) + 1));
        check.badArgument(x, "way", () -> x.way(0, 5));
        check.badArgument(x, "about", () -> x.about(4));
        check.due("the next way", x.coding(1, 1, 0, 0), 5);
        BandMill full = Check.filledTo(8000);
        full.seek(7000);
        check.badState(full, "number", () -> full.number(1));
        check.badState(full, "pack", () -> full.pack(0));
        check.badState(full, "feed", () -> full.feed(1));
        full.end(7998);
        check.badState(full, "pack", () -> full.pack(0));
        check.badState(full, "feed", () -> full.feed(-1));
    }

    private static void theOneNamedFirst() {
        BandMill x = busy();
        check.badArgument(x, "run: n, and a depth of 4", () -> x.run(401, 4, 0));
        check.badArgument(x, "run: no such way, and a depth of 4", () -> x.run(1, 4, 5));
        check.badArgument(x, "popular: m, and a depth of 4", () -> x.popular(0, 4, 4, 4));
        check.badArgument(x, "popular: no such way, and a depth of 4", () -> x.popular(1, 4, 0, -1));
        for (int i = 5; i < 40; i++) {
            x.coding(1, 1, 0, 0);
        }
        check.badState(x, "coding: there are 40", () -> x.coding(1, 1, 0, 0));
        check.badArgument(x, "coding: B, and there are 40", () -> x.coding(0, 1, 0, 0));
        check.badArgument(x, "coding: H, and there are 40", () -> x.coding(1, 257, 0, 0));
        check.badArgument(x, "coding: S, and there are 40", () -> x.coding(1, 1, 3, 0));
        check.badArgument(x, "coding: D, and there are 40", () -> x.coding(1, 1, 0, 2));
        check.badArgument(x, "run: n, and there are 40", () -> x.run(-1, 0, 0));
        check.badArgument(x, "run: no such way, and there are 40", () -> x.run(1, 40, 0));
        check.badArgument(x, "popular: m, and there are 40", () -> x.popular(51, 0, 0, 0));
        check.badArgument(x, "popular: no such way, and there are 40", () -> x.popular(1, 0, 40, 0));
        BandMill full = Check.filledTo(8000);
        check.badArgument(full, "pack: no such way, and a full tape", () -> full.pack(5));
        check.badState(full, "pack: a full tape", () -> full.pack(0));
    }

    private static void noSuchWay() {
        for (int ways = 0; ways <= 2; ways++) {
            BandMill x = new BandMill();
            for (int i = 0; i < ways; i++) {
                x.coding(1, 256, 0, 0);
            }
            for (int none : new int[] {-1, ways, ways + 1, 39, 40, MIN, MAX}) {
                check.badArgument(x, "run(1, none, 0)", () -> x.run(1, none, 0));
                check.badArgument(x, "run(1, 0, none)", () -> x.run(1, 0, none));
                check.badArgument(x, "popular(1, none, 0, 0)", () -> x.popular(1, none, 0, 0));
                check.badArgument(x, "popular(1, 0, none, 0)", () -> x.popular(1, 0, none, 0));
                check.badArgument(x, "popular(1, 0, 0, none)", () -> x.popular(1, 0, 0, none));
                check.badArgument(x, "cost(none)", () -> x.cost(none));
                check.badArgument(x, "pack(none)", () -> x.pack(none));
                check.badArgument(x, "unpack(none, 0)", () -> x.unpack(none, 0));
                check.badArgument(x, "best(none, none)", () -> x.best(none, none));
                check.badArgument(x, "best(0, none)", () -> x.best(0, none));
                check.badArgument(x, "best(none, 0)", () -> x.best(none, 0));
                check.badArgument(x, "best(none, 1)", () -> x.best(none, 1));
                check.badArgument(x, "way(none, 0)", () -> x.way(none, 0));
                check.badArgument(x, "way(none, 4)", () -> x.way(none, 4));
            }
        }
    }
}
