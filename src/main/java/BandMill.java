/**
 * Rows of numbers as bytes: ways to write a row on a tape, which of them takes the fewest bytes,
 * and reading it all back.
 */
public final class BandMill {
    public static final int NONE = -1;

    private static final int MOST_WAYS = 40;
    private static final int MOST_DEPTH = 4;
    private static final int MOST_NUMBERS = 400;
    private static final int MOST_FAVOURITES = 50;
    private static final int MOST_BYTES = 8000;

    private static final int TAPE_ENDS = 1;
    private static final int NO_SUCH_NUMBER = 2;
    private static final int WRONG_TOKENS = 3;

    private final Way[] ways = new Way[MOST_WAYS];
    private int wayCount = 0;
    private final int[] numbers = new int[MOST_NUMBERS];
    private int numberCount = 0;
    /** A row is read here first, since a fault must leave the old one as it was. */
    private final int[] unpacked = new int[MOST_NUMBERS];
    private final Desk desk = new Desk();
    private final RunSearch search = new RunSearch();
    private int faultPlace = NONE;

    public BandMill() {
    }

    public int coding(int b, int h, int s, int d) throws IllegalArgumentException, IllegalStateException {
        checkRange(b, 1, 5);
        checkRange(h, 1, 256);
        checkRange(s, 0, 2);
        checkRange(d, 0, 1);
        checkRoomForWay(0);
        return addWay(new Coding(b, h, s, d));
    }

    public int run(int n, int first, int other) throws IllegalArgumentException, IllegalStateException {
        checkRange(n, 0, MOST_NUMBERS);
        Way ahead = wayAt(first);
        Way behind = wayAt(other);
        int depth = 1 + Math.max(ahead.depth, behind.depth);
        checkRoomForWay(depth);
        return addWay(new Run(depth, n, ahead, behind));
    }

    public int popular(int m, int favourites, int tokens, int others)
            throws IllegalArgumentException, IllegalStateException {
        checkRange(m, 1, MOST_FAVOURITES);
        Way forFavourites = wayAt(favourites);
        Way forTokens = wayAt(tokens);
        Way forOthers = wayAt(others);
        int depth = 1 + Math.max(forFavourites.depth, Math.max(forTokens.depth, forOthers.depth));
        checkRoomForWay(depth);
        return addWay(new Popular(depth, m, forFavourites, forTokens, forOthers));
    }

    public int number(int v) throws IllegalStateException {
        if (numberCount >= MOST_NUMBERS) {
            throw new IllegalStateException("the row is full");
        }
        numbers[numberCount] = v;
        numberCount++;
        return numberCount;
    }

    public int clear() {
        int before = numberCount;
        numberCount = 0;
        return before;
    }

    public int row(int i) {
        return i >= 0 && i < numberCount ? numbers[i] : 0;
    }

    public int cost(int way) throws IllegalArgumentException {
        return draftRow(wayAt(way));
    }

    public int pack(int way) throws IllegalArgumentException, IllegalStateException {
        int bytes = draftRow(wayAt(way));
        if (bytes == NONE) {
            return NONE;
        }
        checkRoomOnTape(bytes);
        desk.tape.keepDraft();
        return bytes;
    }

    public int unpack(int way, int n) throws IllegalArgumentException {
        Way reader = wayAt(way);
        checkRange(n, 0, MOST_NUMBERS);
        Tape tape = desk.tape;
        tape.startReading();
        if (!reader.read(desk, unpacked, 0, n)) {
            faultPlace = tape.faultPlace;
            return -tape.fault;
        }
        faultPlace = NONE;
        System.arraycopy(unpacked, 0, numbers, 0, n);
        numberCount = n;
        return tape.keepReading();
    }

    public int place() {
        return faultPlace;
    }

    public int best(int from, int to) throws IllegalArgumentException {
        checkRange(from, 0, wayCount - 1);
        checkRange(to, from, wayCount - 1);
        int bestWay = NONE;
        int fewest = NONE;
        for (int i = from; i <= to; i++) {
            int bytes = draftRow(ways[i]);
            if (bytes != NONE && (fewest == NONE || bytes < fewest)) {
                bestWay = i;
                fewest = bytes;
            }
        }
        return bestWay;
    }

    public int bestRun() {
        search.startRow(numberCount);
        for (int i = 0; i < wayCount; i++) {
            if (ways[i] instanceof Coding candidate) {
                search.weighHeads(candidate, i, numbers);
                search.weighTails(candidate, i, numbers);
            }
        }
        return search.choose();
    }

    public int chosen(int what) throws IllegalArgumentException {
        switch (what) {
            case 0:
                return search.chosenN;
            case 1:
                return search.chosenFirst;
            case 2:
                return search.chosenOther;
            default:
                throw new IllegalArgumentException("chosen tells 0 .. 2");
        }
    }

    public int feed(int four) throws IllegalStateException {
        checkRoomOnTape(4);
        Tape tape = desk.tape;
        tape.startDraft();
        for (int shift = 24; shift >= 0; shift -= 8) {
            tape.draft(four >>> shift);
        }
        tape.keepDraft();
        return tape.length;
    }

    public void end(int n) throws IllegalArgumentException {
        Tape tape = desk.tape;
        checkRange(n, 0, tape.length);
        tape.length = n;
        tape.readFrom = Math.min(tape.readFrom, n);
    }

    public int seek(int i) throws IllegalArgumentException {
        Tape tape = desk.tape;
        checkRange(i, 0, tape.length);
        int before = tape.readFrom;
        tape.readFrom = i;
        return before;
    }

    public int tape(int i) {
        return desk.tape.byteAt(i);
    }

    public int way(int way, int what) throws IllegalArgumentException {
        Way asked = wayAt(way);
        checkRange(what, 0, 4);
        return what == 4 ? asked.depth : asked.trait(what);
    }

    public int about(int what) throws IllegalArgumentException {
        switch (what) {
            case 0:
                return wayCount;
            case 1:
                return numberCount;
            case 2:
                return desk.tape.length;
            case 3:
                return desk.tape.readFrom;
            default:
                throw new IllegalArgumentException("about tells 0 .. 3");
        }
    }

    private static void checkRange(int value, int least, int greatest) {
        if (value < least || value > greatest) {
            throw new IllegalArgumentException("a number is not as it may be");
        }
    }

    private Way wayAt(int i) {
        checkRange(i, 0, wayCount - 1);
        return ways[i];
    }

    private void checkRoomForWay(int depth) {
        if (wayCount >= MOST_WAYS) {
            throw new IllegalStateException("there are 40 ways");
        }
        if (depth > MOST_DEPTH) {
            throw new IllegalStateException("the way would be too deep");
        }
    }

    private int addWay(Way way) {
        ways[wayCount] = way;
        wayCount++;
        return wayCount - 1;
    }

    private void checkRoomOnTape(int bytes) {
        if (bytes > MOST_BYTES - desk.tape.length) {
            throw new IllegalStateException("the tape would be too long");
        }
    }

    /** How many bytes the row takes, which then stand as a draft behind the tape; NONE if the way can't. */
    private int draftRow(Way way) {
        Tape tape = desk.tape;
        tape.startDraft();
        return way.write(desk, numbers, 0, numberCount) ? tape.drafted : NONE;
    }

    /**
     * The bytes. What is written is first a draft behind the tape's end, and what is read moves a
     * cursor first, so that a call that comes to nothing has nothing to take back.
     */
    private static final class Tape {
        private final byte[] bytes = new byte[MOST_BYTES];
        private int length = 0;
        private int readFrom = 0;
        private int drafted = 0;
        private int cursor = 0;
        private int fault = 0;
        private int faultPlace = NONE;

        int byteAt(int i) {
            return i >= 0 && i < length ? bytes[i] & 255 : NONE;
        }

        void startDraft() {
            drafted = 0;
        }

        /** A draft may grow beyond the tape: there it is only counted, since its cost is asked for too. */
        void draft(int value) {
            int i = length + drafted;
            if (i < MOST_BYTES) {
                bytes[i] = (byte) value;
            }
            drafted++;
        }

        void keepDraft() {
            length = Math.min(length + drafted, MOST_BYTES);
            drafted = 0;
        }

        void startReading() {
            cursor = readFrom;
        }

        /** The byte under the cursor, which moves on; NONE where the tape ends. */
        int next() {
            int value = byteAt(cursor);
            if (value != NONE) {
                cursor++;
            }
            return value;
        }

        /** How many bytes have been read since reading started. */
        int keepReading() {
            int count = cursor - readFrom;
            readFrom = cursor;
            return count;
        }

        /** Always false, for the reader that hands it on. */
        boolean fail(int kind, int at) {
            fault = kind;
            faultPlace = at;
            return false;
        }
    }

    /** What ways work with: the tape, and rows made once for all calls. */
    private static final class Desk {
        private final Tape tape = new Tape();
        private final Census census = new Census();
        private final Frame[] frames = new Frame[MOST_DEPTH];

        Desk() {
            for (int i = 0; i < MOST_DEPTH; i++) {
                frames[i] = new Frame();
            }
        }
    }

    /**
     * The rows of a popular way of one depth. The ways it is made of are less deep, so while they
     * work they leave its frame alone.
     */
    private static final class Frame {
        /** How many favourites there are, and behind that they themselves. */
        private final int[] favourites = new int[1 + MOST_FAVOURITES];
        /** One after the other the kinds, the tokens, and the numbers that are no favourites. */
        private final int[] line = new int[MOST_NUMBERS];
    }

    /** A way to write a row of numbers and to read it back. */
    private abstract static class Way {
        final int depth;

        Way(int depth) {
            this.depth = depth;
        }

        /** Drafts the row on the desk's tape: whether it can. */
        abstract boolean write(Desk desk, int[] row, int from, int count);

        /** Reads so many numbers into the row: whether there was no fault. */
        abstract boolean read(Desk desk, int[] row, int from, int count);

        /** B, H, S, D of a coding; NONE of others. */
        int trait(int what) {
            return NONE;
        }
    }

    private static final class Coding extends Way {
        private static final long CODES = 1L << 32;
        private static final long NUMBERS = 1L << 31;
        /** Beyond all numbers of 32 bits. */
        private static final long NO_NUMBER = 1L << 32;

        private final int b;
        private final int h;
        private final int s;
        private final int d;
        /** L of the document: a byte below it is a code's last. */
        private final int low;

        Coding(int b, int h, int s, int d) {
            super(0);
            this.b = b;
            this.h = h;
            this.s = s;
            this.d = d;
            this.low = 256 - h;
        }

        int trait(int what) {
            switch (what) {
                case 0:
                    return b;
                case 1:
                    return h;
                case 2:
                    return s;
                case 3:
                    return d;
                default:
                    return NONE;
            }
        }

        boolean write(Desk desk, int[] row, int from, int count) {
            int before = 0;
            for (int i = from; i < from + count; i++) {
                if (!writeCode(codeOf(row[i], before), desk.tape)) {
                    return false;
                }
                before = row[i];
            }
            return true;
        }

        boolean read(Desk desk, int[] row, int from, int count) {
            Tape tape = desk.tape;
            int before = 0;
            for (int i = from; i < from + count; i++) {
                int start = tape.cursor;
                long code = readCode(tape);
                if (code == NONE) {
                    return tape.fail(TAPE_ENDS, start);
                }
                long told = numberOf(code);
                if (told == NO_NUMBER) {
                    return tape.fail(NO_SUCH_NUMBER, start);
                }
                row[i] = d == 1 ? before + (int) told : (int) told;
                before = row[i];
            }
            return true;
        }

        /** How many bytes a number takes behind another one; NONE if it has no code. */
        int bytesOf(int number, int before) {
            long rest = codeOf(number, before);
            if (rest == NONE) {
                return NONE;
            }
            for (int i = 1; i < b; i++) {
                if (rest < low) {
                    return i;
                }
                rest = (rest - low) / h;
            }
            return rest < 256 ? b : NONE;
        }

        private boolean writeCode(long code, Tape tape) {
            if (code == NONE) {
                return false;
            }
            long rest = code;
            for (int i = 1; i < b; i++) {
                if (rest < low) {
                    tape.draft((int) rest);
                    return true;
                }
                tape.draft(low + (int) ((rest - low) % h));
                rest = (rest - low) / h;
            }
            tape.draft((int) rest);
            return rest < 256;
        }

        /** NONE if the tape ends before the code does. */
        private long readCode(Tape tape) {
            long code = 0;
            long weight = 1;
            for (int i = 0; i < b; i++) {
                int value = tape.next();
                if (value == NONE) {
                    return NONE;
                }
                code += value * weight;
                if (value < low) {
                    return code;
                }
                weight *= h;
            }
            return code;
        }

        /** NONE if there is none. */
        private long codeOf(int number, int before) {
            long told = d == 1 ? number - before : number;
            if (told >= 0) {
                return s == 0 ? told : told + told / ((1 << s) - 1);
            }
            long code = (-told << s) - 1;
            return s != 0 && code < CODES ? code : NONE;
        }

        private long numberOf(long code) {
            if (code >= CODES) {
                return NO_NUMBER;
            }
            boolean below = s != 0 && (code + 1) % (1 << s) == 0;
            if (below) {
                return -((code + 1) >> s);
            }
            long number = s == 0 ? code : code - (code >> s);
            return number < NUMBERS ? number : NO_NUMBER;
        }
    }

    private static final class Run extends Way {
        private final int n;
        private final Way first;
        private final Way other;

        Run(int depth, int n, Way first, Way other) {
            super(depth);
            this.n = n;
            this.first = first;
            this.other = other;
        }

        boolean write(Desk desk, int[] row, int from, int count) {
            int head = Math.min(n, count);
            return first.write(desk, row, from, head)
                    && other.write(desk, row, from + head, count - head);
        }

        boolean read(Desk desk, int[] row, int from, int count) {
            int head = Math.min(n, count);
            return first.read(desk, row, from, head)
                    && other.read(desk, row, from + head, count - head);
        }
    }

    private static final class Popular extends Way {
        private final int m;
        private final Way forFavourites;
        private final Way forTokens;
        private final Way forOthers;

        Popular(int depth, int m, Way forFavourites, Way forTokens, Way forOthers) {
            super(depth);
            this.m = m;
            this.forFavourites = forFavourites;
            this.forTokens = forTokens;
            this.forOthers = forOthers;
        }

        boolean write(Desk desk, int[] row, int from, int count) {
            Frame frame = desk.frames[depth - 1];
            desk.census.take(row, from, count, m, frame);
            if (!forFavourites.write(desk, frame.favourites, 0, 1)
                    || !forFavourites.write(desk, frame.favourites, 1, frame.favourites[0])
                    || !forTokens.write(desk, frame.line, 0, count)) {
                return false;
            }
            int others = gatherOthers(row, from, count, frame.line);
            return forOthers.write(desk, frame.line, 0, others);
        }

        boolean read(Desk desk, int[] row, int from, int count) {
            Tape tape = desk.tape;
            Frame frame = desk.frames[depth - 1];
            int start = tape.cursor;
            if (!forFavourites.read(desk, frame.favourites, 0, 1)) {
                return false;
            }
            int known = frame.favourites[0];
            if (known < 0 || known > m) {
                return tape.fail(WRONG_TOKENS, start);
            }
            if (!forFavourites.read(desk, frame.favourites, 1, known)) {
                return false;
            }
            start = tape.cursor;
            if (!forTokens.read(desk, row, from, count)) {
                return false;
            }
            int others = countOthers(row, from, count, known);
            if (others == NONE) {
                return tape.fail(WRONG_TOKENS, start);
            }
            if (!forOthers.read(desk, frame.line, 0, others)) {
                return false;
            }
            replaceTokens(row, from, count, frame);
            return true;
        }

        /** The line has a token for each number, and then the numbers whose token is 0: how many. */
        private static int gatherOthers(int[] row, int from, int count, int[] line) {
            int others = 0;
            for (int i = 0; i < count; i++) {
                if (line[i] == 0) {
                    line[others] = row[from + i];
                    others++;
                }
            }
            return others;
        }

        /** How many tokens are 0; NONE if one is no token at all. */
        private static int countOthers(int[] row, int from, int count, int known) {
            int others = 0;
            for (int i = from; i < from + count; i++) {
                if (row[i] < 0 || row[i] > known) {
                    return NONE;
                }
                if (row[i] == 0) {
                    others++;
                }
            }
            return others;
        }

        private static void replaceTokens(int[] row, int from, int count, Frame frame) {
            int others = 0;
            for (int i = from; i < from + count; i++) {
                if (row[i] == 0) {
                    row[i] = frame.line[others];
                    others++;
                } else {
                    row[i] = frame.favourites[row[i]];
                }
            }
        }
    }

    /** Counts how often each number is in a row, and finds the favourites. */
    private static final class Census {
        private static final int MOST_BITS = 9;
        private static final int SPREAD = 0x9E3779B1;

        /** Where numbers are looked up: their kind and 1, or 0 if the slot is free. */
        private final int[] slots = new int[1 << MOST_BITS];
        private int bits = 1;
        /** The different numbers, that first which comes first. */
        private final int[] kinds = new int[MOST_NUMBERS];
        /** How often a kind is in the row; a favourite's token, below 0, once it is one. */
        private final int[] tallies = new int[MOST_NUMBERS];
        private int kindCount = 0;

        /** The frame gets how many favourites there are, they themselves, and the tokens. */
        void take(int[] row, int from, int count, int m, Frame frame) {
            empty(count);
            for (int i = 0; i < count; i++) {
                int kind = kindOf(row[from + i]);
                tallies[kind]++;
                frame.line[i] = kind;
            }
            chooseFavourites(m, frame.favourites);
            for (int i = 0; i < count; i++) {
                frame.line[i] = Math.max(0, -tallies[frame.line[i]]);
            }
        }

        /** Few numbers get few slots, since emptying many would take longer than counting. */
        private void empty(int count) {
            bits = 1;
            while (bits < MOST_BITS && (1 << bits) < 2 * count) {
                bits++;
            }
            for (int i = 0; i < 1 << bits; i++) {
                slots[i] = 0;
            }
            kindCount = 0;
        }

        /** There are more slots than kinds, so that a number always finds its own or a free one. */
        private int kindOf(int number) {
            int size = 1 << bits;
            int slot = (number * SPREAD) >>> (32 - bits);
            for (int i = 0; i < size && slots[slot] != 0 && kinds[slots[slot] - 1] != number; i++) {
                slot = (slot + 1) % size;
            }
            if (slots[slot] == 0) {
                kinds[kindCount] = number;
                tallies[kindCount] = 0;
                kindCount++;
                slots[slot] = kindCount;
            }
            return slots[slot] - 1;
        }

        private void chooseFavourites(int m, int[] favourites) {
            int known = 0;
            int kind = mostFrequent();
            while (known < m && kind != NONE) {
                known++;
                favourites[known] = kinds[kind];
                tallies[kind] = -known;
                kind = mostFrequent();
            }
            favourites[0] = known;
        }

        /** Of the kinds that come twice or more and are no favourites yet; NONE if there is none. */
        private int mostFrequent() {
            int found = NONE;
            int most = 1;
            for (int i = 0; i < kindCount; i++) {
                if (tallies[i] > most) {
                    found = i;
                    most = tallies[i];
                }
            }
            return found;
        }
    }

    /**
     * Looks for the best run of two codings. What the numbers before n take does not depend on the
     * way of those from n on, so for each n the best way of either side is the best of both.
     */
    private static final class RunSearch {
        private static final int UNTOLD = 1 << 30;

        /**
         * For each n the least of bytes * MOST_WAYS + way over all codings: the fewest bytes, and
         * then the least way.
         */
        private final int[] heads = new int[MOST_NUMBERS + 1];
        private final int[] tails = new int[MOST_NUMBERS + 1];
        private int count = 0;
        private int chosenN = NONE;
        private int chosenFirst = NONE;
        private int chosenOther = NONE;

        void startRow(int numbers) {
            count = numbers;
            for (int n = 0; n <= count; n++) {
                heads[n] = UNTOLD;
                tails[n] = UNTOLD;
            }
            chosenN = NONE;
            chosenFirst = NONE;
            chosenOther = NONE;
        }

        void weighHeads(Coding candidate, int way, int[] row) {
            int bytes = 0;
            int before = 0;
            offer(heads, 0, bytes, way);
            for (int n = 1; n <= count && bytes != NONE; n++) {
                bytes = sum(bytes, candidate.bytesOf(row[n - 1], before));
                before = row[n - 1];
                offer(heads, n, bytes, way);
            }
        }

        /** The first number of a tail has none before it, which matters to differences. */
        void weighTails(Coding candidate, int way, int[] row) {
            int behind = 0;
            offer(tails, count, behind, way);
            for (int n = count - 1; n >= 0 && behind != NONE; n--) {
                offer(tails, n, sum(behind, candidate.bytesOf(row[n], 0)), way);
                if (n > 0) {
                    behind = sum(behind, candidate.bytesOf(row[n], row[n - 1]));
                }
            }
        }

        /** The fewest bytes; NONE if no run can write the row. */
        int choose() {
            int fewest = NONE;
            for (int n = 0; n <= count; n++) {
                int bytes = heads[n] / MOST_WAYS + tails[n] / MOST_WAYS;
                if (bytes < UNTOLD / MOST_WAYS && (fewest == NONE || bytes < fewest)) {
                    fewest = bytes;
                    chosenN = n;
                    chosenFirst = heads[n] % MOST_WAYS;
                    chosenOther = tails[n] % MOST_WAYS;
                }
            }
            return fewest;
        }

        private static void offer(int[] side, int n, int bytes, int way) {
            if (bytes != NONE) {
                side[n] = Math.min(side[n], bytes * MOST_WAYS + way);
            }
        }

        private static int sum(int bytes, int more) {
            return bytes == NONE || more == NONE ? NONE : bytes + more;
        }
    }
}
