import java.util.ArrayList;
import java.util.HashSet;
import java.util.List;
import java.util.Set;

/** The document once more, in lists and texts, as plainly as it can be said. */
final class Model {
    private static final int[] SORTS = {4, 3, 5, 6, 4, 7};
    private static final int[] FAULTS = {3, 2, 4, 3, 5, 2};

    private final long seed;
    private long state;
    private List<long[]> parts = new ArrayList<>();
    private List<Integer> left = new ArrayList<>();
    private final Set<Integer> staying = new HashSet<>();
    private int fault = 0;
    private int faultPart = -1;

    Model(long seed) {
        this.seed = seed;
        this.state = seed;
    }

    private long below(long n) {
        state = state * 6364136223846793005L + 1442695040888963407L;
        return (state >>> 33) % n;
    }

    int draw(int kind, int size) {
        if (kind < 0 || kind > 5) return -1;
        if (size < 0 || size > 20) return -2;
        parts = new ArrayList<>();
        left = new ArrayList<>();
        fault = 0;
        faultPart = -1;
        if (size == 0) {
            parts.add(new long[4]);
        } else {
            drawParts(kind, size);
        }
        for (int i = 0; i < parts.size(); i++) left.add(i);
        return parts.size();
    }

    private void drawParts(int kind, int size) {
        long n = size + below(size + 1);
        for (int i = 0; i < n; i++) {
            long sort = below(SORTS[kind]);
            long x;
            if (kind == 0 || kind == 3) x = below(i + 1);
            else if (kind == 1) x = below(8) * 8;
            else if (kind == 2) x = (i == 0 ? 0 : parts.get(i - 1)[1]) + 1 + below(16);
            else if (kind == 4) x = below(256);
            else x = below(4) * 16 + sort;
            long y;
            if (kind == 0 && sort == 3) y = x == i ? 0 : parts.get((int) x)[2];
            else y = below(64);
            parts.add(new long[] {sort, x, y, below(1000)});
        }
        long f = below(2 * FAULTS[kind]);
        if (f < FAULTS[kind]) return;
        fault = (int) f - FAULTS[kind] + 1;
        faultPart = (int) below(n);
        long[] part = parts.get(faultPart);
        if (fault == 1) part[1] += 1000;
        if (fault == 2) part[2] = -1 - part[2];
        if (fault == 3) part[3] += 1000;
        if (fault == 4) part[0] = SORTS[kind];
        if (fault == 5) part[1] = part[2] = part[3] = 0;
    }

    long part(int i, int what) {
        if (i < 0 || i >= parts.size()) return -1;
        if (what < 0 || what > 4) return -2;
        return what == 4 ? (left.contains(i) ? 1 : 0) : parts.get(i)[what];
    }

    private String text() {
        String text = "";
        for (int i : left) {
            long[] part = parts.get(i);
            text += (char) (97 + part[0]) + " " + part[1] + " " + part[2] + " " + part[3] + "\n";
        }
        return text;
    }

    int letter(int i) {
        return i < 0 || i >= text().length() ? -1 : text().charAt(i);
    }

    private int signature(List<Integer> row) {
        int bits = 0;
        long sum = 0;
        for (int i : row) {
            bits |= new int[] {1, 2, 4, 8}[(int) (parts.get(i)[0] % 4)];
            sum += parts.get(i)[3];
        }
        return bits + (row.contains(faultPart) ? 16 : 0) + (sum % 2 != 0 ? 32 : 0);
    }

    int planted(int what) {
        return what == 0 ? fault : what == 1 ? faultPart : what == 2 ? signature(left) : -2;
    }

    void verdict(int bits, boolean stays) {
        if (bits < 0 || bits > 63) return;
        if (stays) staying.add(bits);
        else staying.remove(bits);
    }

    private List<Integer> without(int from, int to) {
        List<Integer> row = new ArrayList<>(left.subList(0, from));
        row.addAll(left.subList(Math.min(to, left.size()), left.size()));
        return row;
    }

    private boolean stays(List<Integer> row) {
        return !row.isEmpty() && staying.contains(signature(row));
    }

    int shorter() {
        if (parts.isEmpty()) return -3;
        if (!stays(left)) return left.size();
        int w = left.size() / 2;
        while (w >= 1) {
            int before = left.size();
            int at = 0;
            while (at < left.size()) {
                if (stays(without(at, at + w))) left = without(at, at + w);
                else at += w;
            }
            if (w > 1 || left.size() == before) w /= 2;
        }
        return left.size();
    }

    int left(int i) {
        return i < 0 || i >= left.size() ? -1 : left.get(i);
    }

    boolean minimal() {
        if (!stays(left)) return false;
        for (int i = 0; i < left.size(); i++) {
            if (stays(without(i, i + 1))) return false;
        }
        return true;
    }

    boolean answers() {
        return !parts.isEmpty() && parts.stream().mapToLong(part -> part[3]).sum() % 2 == 0;
    }

    boolean same(long other, int kind, int size) {
        Model mine = new Model(seed);
        Model theirs = new Model(other);
        if (mine.draw(kind, size) < 0) return false;
        theirs.draw(kind, size);
        return mine.fault == theirs.fault && mine.text().equals(theirs.text());
    }
}
