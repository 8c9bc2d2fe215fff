import java.util.ArrayList;
import java.util.LinkedHashMap;
import java.util.List;
import java.util.Map;

/**
 * The document once more, as slow and as near to its words as can be, for ModelTest to hold the
 * class against. It makes new lists everywhere and shares no trick with the class.
 */
final class Model {
    /** A fault of reading. */
    private static final class Fault extends RuntimeException {
        private static final long serialVersionUID = 1L;
        final int kind;
        final int at;

        Fault(int kind, int at) {
            this.kind = kind;
            this.at = at;
        }
    }

    /** kind 'c': B, H, S, D; kind 'r': n, first, other; kind 'p': m and three ways. */
    private record Way(char kind, int[] parts, int depth) {
    }

    private final List<Way> ways = new ArrayList<>();
    private List<Integer> row = new ArrayList<>();
    private List<Integer> tape = new ArrayList<>();
    private int read = 0;
    private int place = -1;
    private int[] chosen = {-1, -1, -1};
    private int cursor = 0;

    private static void argument(boolean fine) {
        if (!fine) {
            throw new IllegalArgumentException();
        }
    }

    private static void state(boolean fine) {
        if (!fine) {
            throw new IllegalStateException();
        }
    }

    private void isWay(int i) {
        argument(0 <= i && i < ways.size());
    }

    int coding(int b, int h, int s, int d) {
        argument(1 <= b && b <= 5 && 1 <= h && h <= 256 && 0 <= s && s <= 2 && (d == 0 || d == 1));
        return add('c', new int[] {b, h, s, d}, 0);
    }

    int run(int n, int first, int other) {
        argument(0 <= n && n <= 400);
        return add('r', new int[] {n, first, other}, 1);
    }

    int popular(int m, int favourites, int tokens, int others) {
        argument(1 <= m && m <= 50);
        return add('p', new int[] {m, favourites, tokens, others}, 1);
    }

    private int add(char kind, int[] parts, int ownDepth) {
        int depth = ownDepth;
        for (int i = 1; i < parts.length && kind != 'c'; i++) {
            isWay(parts[i]);
            depth = Math.max(depth, 1 + ways.get(parts[i]).depth());
        }
        state(ways.size() < 40 && depth <= 4);
        ways.add(new Way(kind, parts, depth));
        return ways.size() - 1;
    }

    int number(int v) {
        state(row.size() < 400);
        row.add(v);
        return row.size();
    }

    int clear() {
        int size = row.size();
        row = new ArrayList<>();
        return size;
    }

    int row(int i) {
        return 0 <= i && i < row.size() ? row.get(i) : 0;
    }

    int cost(int way) {
        isWay(way);
        List<Integer> bytes = write(ways.get(way), row);
        return bytes == null ? -1 : bytes.size();
    }

    int pack(int way) {
        isWay(way);
        List<Integer> bytes = write(ways.get(way), row);
        if (bytes == null) {
            return -1;
        }
        state(tape.size() + bytes.size() <= 8000);
        tape.addAll(bytes);
        return bytes.size();
    }

    int unpack(int way, int n) {
        isWay(way);
        argument(0 <= n && n <= 400);
        cursor = read;
        try {
            row = read(ways.get(way), n);
        } catch (Fault f) {
            place = f.at;
            return -f.kind;
        }
        place = -1;
        int bytes = cursor - read;
        read = cursor;
        return bytes;
    }

    int place() {
        return place;
    }

    int best(int from, int to) {
        isWay(from);
        isWay(to);
        argument(from <= to);
        int found = -1;
        for (int i = to; i >= from; i--) {
            if (cost(i) != -1 && (found == -1 || cost(i) <= cost(found))) {
                found = i;
            }
        }
        return found;
    }

    int bestRun() {
        int fewest = -1;
        chosen = new int[] {-1, -1, -1};
        for (int n = 0; n <= row.size(); n++) {
            for (int first = 0; first < ways.size(); first++) {
                for (int other = 0; other < ways.size(); other++) {
                    if (ways.get(first).kind() != 'c' || ways.get(other).kind() != 'c') {
                        continue;
                    }
                    List<Integer> bytes = write(new Way('r', new int[] {n, first, other}, 1), row);
                    if (bytes != null && (fewest == -1 || bytes.size() < fewest)) {
                        fewest = bytes.size();
                        chosen = new int[] {n, first, other};
                    }
                }
            }
        }
        return fewest;
    }

    int chosen(int what) {
        argument(0 <= what && what <= 2);
        return chosen[what];
    }

    int feed(int four) {
        state(tape.size() + 4 <= 8000);
        for (int i = 3; i >= 0; i--) {
            tape.add(four >> 8 * i & 255);
        }
        return tape.size();
    }

    int end(int n) {
        argument(0 <= n && n <= tape.size());
        tape = new ArrayList<>(tape.subList(0, n));
        read = Math.min(read, n);
        return 0;
    }

    int seek(int i) {
        argument(0 <= i && i <= tape.size());
        int before = read;
        read = i;
        return before;
    }

    int tape(int i) {
        return 0 <= i && i < tape.size() ? tape.get(i) : -1;
    }

    int way(int way, int what) {
        isWay(way);
        argument(0 <= what && what <= 4);
        Way w = ways.get(way);
        return what == 4 ? w.depth() : w.kind() == 'c' ? w.parts()[what] : -1;
    }

    int about(int what) {
        argument(0 <= what && what <= 3);
        return new int[] {ways.size(), row.size(), tape.size(), read}[what];
    }

    /** Null if the way can't. */
    private List<Integer> write(Way way, List<Integer> numbers) {
        switch (way.kind()) {
            case 'c':
                return writeCodes(way.parts(), numbers);
            case 'r':
                int n = Math.min(way.parts()[0], numbers.size());
                return joined(write(ways.get(way.parts()[1]), numbers.subList(0, n)),
                        write(ways.get(way.parts()[2]), numbers.subList(n, numbers.size())));
            default:
                return writePopular(way.parts(), numbers);
        }
    }

    private static List<Integer> joined(List<Integer> one, List<Integer> two) {
        if (one == null || two == null) {
            return null;
        }
        List<Integer> all = new ArrayList<>(one);
        all.addAll(two);
        return all;
    }

    private List<Integer> writePopular(int[] parts, List<Integer> numbers) {
        List<Integer> favourites = favourites(parts[0], numbers);
        List<Integer> tokens = new ArrayList<>();
        List<Integer> others = new ArrayList<>();
        for (int v : numbers) {
            tokens.add(1 + favourites.indexOf(v));
            if (!favourites.contains(v)) {
                others.add(v);
            }
        }
        List<Integer> all = write(ways.get(parts[1]), List.of(favourites.size()));
        all = joined(all, write(ways.get(parts[1]), favourites));
        all = joined(all, write(ways.get(parts[2]), tokens));
        return joined(all, write(ways.get(parts[3]), others));
    }

    private static List<Integer> favourites(int m, List<Integer> numbers) {
        Map<Integer, Integer> counts = new LinkedHashMap<>();
        for (int v : numbers) {
            counts.merge(v, 1, Integer::sum);
        }
        List<Integer> all = new ArrayList<>(counts.keySet());
        all.removeIf(v -> counts.get(v) < 2);
        all.sort((v, w) -> counts.get(w) - counts.get(v));
        return all.size() > m ? all.subList(0, m) : all;
    }

    private static List<Integer> writeCodes(int[] parts, List<Integer> numbers) {
        List<Integer> all = new ArrayList<>();
        int before = 0;
        for (int v : numbers) {
            Long code = codeOf(parts[2], parts[3] == 1 ? v - before : v);
            List<Integer> bytes = code == null ? null : bytesOf(parts[0], parts[1], code);
            if (bytes == null) {
                return null;
            }
            all.addAll(bytes);
            before = v;
        }
        return all;
    }

    /** Looks among the codes near to where it must be for the one that is the number. */
    private static Long codeOf(int s, int number) {
        long size = 1L << s;
        long near = number < 0 ? -(long) number * size : s == 0 ? number : number * size / (size - 1);
        for (long code = Math.max(0, near - 5); code <= near + 5; code++) {
            Long is = numberOf(s, code);
            if (is != null && is == number) {
                return code;
            }
        }
        return null;
    }

    /** Null if the code is no number. */
    private static Long numberOf(int s, long code) {
        if (code >= 4294967296L) {
            return null;
        }
        if (s > 0 && (code + 1) % (1L << s) == 0) {
            return -(code + 1) / (1L << s);
        }
        long number = s == 0 ? code : code - code / (1L << s);
        return number < 2147483648L ? number : null;
    }

    /** Tries all bytes that may stand first. */
    private static List<Integer> bytesOf(int b, int h, long code) {
        int l = 256 - h;
        for (int value = 0; value < 256; value++) {
            boolean last = value < l || b == 1;
            if (last && code == value) {
                return List.of(value);
            }
            if (!last && code >= value && (code - value) % h == 0) {
                return joined(List.of(value), bytesOf(b - 1, h, (code - value) / h));
            }
        }
        return null;
    }

    private List<Integer> read(Way way, int n) {
        switch (way.kind()) {
            case 'c':
                return readCodes(way.parts(), n);
            case 'r':
                int head = Math.min(way.parts()[0], n);
                List<Integer> one = read(ways.get(way.parts()[1]), head);
                return joined(one, read(ways.get(way.parts()[2]), n - head));
            default:
                return readPopular(way.parts(), n);
        }
    }

    private List<Integer> readPopular(int[] parts, int n) {
        int start = cursor;
        int many = read(ways.get(parts[1]), 1).get(0);
        if (many < 0 || many > parts[0]) {
            throw new Fault(3, start);
        }
        List<Integer> favourites = read(ways.get(parts[1]), many);
        start = cursor;
        List<Integer> tokens = read(ways.get(parts[2]), n);
        int zeros = 0;
        for (int token : tokens) {
            if (token < 0 || token > many) {
                throw new Fault(3, start);
            }
            zeros += token == 0 ? 1 : 0;
        }
        List<Integer> others = new ArrayList<>(read(ways.get(parts[3]), zeros));
        List<Integer> all = new ArrayList<>();
        for (int token : tokens) {
            all.add(token == 0 ? others.remove(0) : favourites.get(token - 1));
        }
        return all;
    }

    private List<Integer> readCodes(int[] parts, int n) {
        List<Integer> all = new ArrayList<>();
        for (int i = 0; i < n; i++) {
            int start = cursor;
            List<Integer> bytes = new ArrayList<>();
            boolean last = false;
            while (!last) {
                if (cursor >= tape.size()) {
                    throw new Fault(1, start);
                }
                bytes.add(tape.get(cursor));
                cursor++;
                last = bytes.size() == parts[0] || bytes.get(bytes.size() - 1) < 256 - parts[1];
            }
            long code = 0;
            for (int k = bytes.size() - 1; k >= 0; k--) {
                code = code * parts[1] + bytes.get(k);
            }
            Long number = numberOf(parts[2], code);
            if (number == null) {
                throw new Fault(2, start);
            }
            int before = parts[3] == 1 && i > 0 ? all.get(i - 1) : 0;
            all.add(before + (int) (long) number);
        }
        return all;
    }
}
