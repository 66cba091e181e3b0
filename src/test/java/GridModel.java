import java.util.ArrayList;
import java.util.List;
import java.util.TreeSet;

/** The document's terms put down in the plainest and slowest way, to compare answers with. */
final class GridModel {
    final int kind;
    final int w;
    final int h;
    final int n;
    private final TreeSet<Integer>[] joined;
    private final TreeSet<String> walls = new TreeSet<>();
    final int[] marks;
    final int[] areas;
    private final StringBuilder came = new StringBuilder();

    @SuppressWarnings({"unchecked", "rawtypes"})
    GridModel(int kind, int width, int height) {
        this.kind = Math.max(0, Math.min(4, kind));
        w = Math.max(1, Math.min(16, width));
        h = this.kind == 4 ? 1 : Math.max(1, Math.min(16, height));
        n = w * h;
        marks = new int[n];
        areas = new int[n];
        joined = new TreeSet[n];
        for (int p = 0; p < n; p++) {
            joined[p] = new TreeSet<>();
        }
    }

    private static void add(List<Integer> list, GridModel g, int x, int y) {
        list.add(x < 0 || y < 0 || x >= g.w || y >= g.h ? -1 : g.w * y + x);
    }

    /** Who lies in each direction, -1 where nobody does. */
    private List<Integer> around(int p) {
        List<Integer> list = new ArrayList<>();
        int x = p % w;
        int y = p / w;
        if (kind == 0) {
            add(list, this, x, y - 1);
            add(list, this, x + 1, y);
            add(list, this, x, y + 1);
            add(list, this, x - 1, y);
        } else if (kind == 1 && y % 2 == 0) {
            add(list, this, x, y - 1);
            add(list, this, x + 1, y);
            add(list, this, x, y + 1);
            add(list, this, x - 1, y + 1);
            add(list, this, x - 1, y);
            add(list, this, x - 1, y - 1);
        } else if (kind == 1) {
            add(list, this, x + 1, y - 1);
            add(list, this, x + 1, y);
            add(list, this, x + 1, y + 1);
            add(list, this, x, y + 1);
            add(list, this, x - 1, y);
            add(list, this, x, y - 1);
        } else if (kind == 2) {
            add(list, this, x - 1, y);
            add(list, this, x + 1, y);
            add(list, this, x, (x + y) % 2 == 0 ? y + 1 : y - 1);
        } else if (kind == 3) {
            add(list, this, x, y - 1);
            list.add(w == 1 ? -1 : w * y + (x + 1) % w);
            add(list, this, x, y + 1);
            list.add(w <= 2 ? -1 : w * y + (x + w - 1) % w);
        } else {
            list.addAll(joined[p]);
        }
        return list;
    }

    List<Integer> neighbours(int p) {
        List<Integer> list = around(p);
        list.removeIf(q -> q < 0);
        return list;
    }

    private boolean neighbours(int a, int b) {
        return neighbours(a).contains(b);
    }

    private static String key(int a, int b) {
        return Math.min(a, b) + "|" + Math.max(a, b);
    }

    private boolean walled(int a, int b) {
        return walls.contains(key(a, b));
    }

    private boolean next(int a, int b) {
        return neighbours(a, b) && !walled(a, b);
    }

    boolean join(int a, int b) {
        if (kind != 4 || a == b || joined[a].contains(b)) {
            return false;
        }
        joined[a].add(b);
        joined[b].add(a);
        return true;
    }

    int degree(int p, boolean onlyNext) {
        int found = 0;
        for (int q : neighbours(p)) {
            if (!onlyNext || next(p, q)) {
                found++;
            }
        }
        return found;
    }

    int neighbour(int p, int k) {
        List<Integer> list = neighbours(p);
        return k < 0 || k >= list.size() ? -1 : list.get(k);
    }

    boolean wall(int a, int b, boolean on) {
        if (!neighbours(a, b)) {
            return false;
        }
        return on ? walls.add(key(a, b)) : walls.remove(key(a, b));
    }

    private List<int[]> allPairs(boolean onlyWalled) {
        List<int[]> list = new ArrayList<>();
        for (int a = 0; a < n; a++) {
            for (int b : new TreeSet<>(neighbours(a))) {
                if (a < b && (!onlyWalled || walled(a, b))) {
                    list.add(new int[] {a, b});
                }
            }
        }
        return list;
    }

    int pairs(boolean onlyWalled) {
        return allPairs(onlyWalled).size();
    }

    int pair(int k, boolean greater) {
        List<int[]> list = allPairs(false);
        return k < 0 || k >= list.size() ? -1 : list.get(k)[greater ? 1 : 0];
    }

    int seen(int p, int direction, int i) {
        int[] directions = {4, 6, 2, 4, 0};
        if (direction < 0 || direction >= directions[kind]) {
            return -1;
        }
        List<Integer> list = new ArrayList<>();
        int at = p;
        while (true) {
            int to = around(at).get(direction);
            if (to < 0 || walled(at, to) || to == p) {
                break;
            }
            list.add(to);
            at = to;
        }
        return i < 0 || i >= list.size() ? -1 : list.get(i);
    }

    /** Lengths made better step by step until nothing changes. */
    int far(int a, int b) {
        int[] length = new int[n];
        for (int p = 0; p < n; p++) {
            length[p] = p == a ? 0 : 100000;
        }
        List<int[]> open = openPairs();
        boolean changed = true;
        while (changed) {
            changed = false;
            for (int[] pair : open) {
                int p = pair[0];
                int q = pair[1];
                if (length[p] > length[q] + 1) {
                    length[p] = length[q] + 1;
                    changed = true;
                }
                if (length[q] > length[p] + 1) {
                    length[q] = length[p] + 1;
                    changed = true;
                }
            }
        }
        return length[b] == 100000 ? -1 : length[b];
    }

    private List<int[]> openPairs() {
        List<int[]> list = allPairs(false);
        list.removeIf(pair -> walled(pair[0], pair[1]));
        return list;
    }

    /** Places get one name with those next to them, until nothing changes; then names are counted. */
    private int countParts(boolean[] in) {
        int[] name = new int[n];
        for (int p = 0; p < n; p++) {
            name[p] = p;
        }
        List<int[]> open = openPairs();
        boolean changed = true;
        while (changed) {
            changed = false;
            for (int[] pair : open) {
                int p = pair[0];
                int q = pair[1];
                if (in[p] && in[q] && name[p] != name[q]) {
                    name[p] = Math.min(name[p], name[q]);
                    name[q] = name[p];
                    changed = true;
                }
            }
        }
        TreeSet<Integer> names = new TreeSet<>();
        for (int p = 0; p < n; p++) {
            if (in[p]) {
                names.add(name[p]);
            }
        }
        return names.size();
    }

    int parts(int area) {
        boolean[] in = new boolean[n];
        for (int p = 0; p < n; p++) {
            in[p] = area < 0 || areas[p] == area;
        }
        return countParts(in);
    }

    int without(int place) {
        boolean[] in = new boolean[n];
        for (int p = 0; p < n; p++) {
            in[p] = p != place;
        }
        return countParts(in);
    }

    boolean area(int p, int number) {
        if (number < 0 || number >= n) {
            return false;
        }
        areas[p] = number;
        return true;
    }

    int size(int area) {
        int found = 0;
        for (int a : areas) {
            found += a == area ? 1 : 0;
        }
        return found;
    }

    boolean mark(int p, int v) {
        if (v < 0 || v > 99) {
            return false;
        }
        marks[p] = v;
        return true;
    }

    private int turns() {
        return kind == 4 ? 1 : kind == 3 ? 2 * w : w == h ? 8 : 4;
    }

    int image(int turn, int p) {
        if (turn < 0 || turn >= turns()) {
            return -1;
        }
        int x = p % w;
        int y = p / w;
        if (kind == 3) {
            int r = turn / 2;
            return w * y + (turn % 2 == 0 ? (x + r) % w : Math.floorMod(r - x, w));
        }
        int[][] to = {{x, y}, {w - 1 - x, y}, {x, h - 1 - y}, {w - 1 - x, h - 1 - y},
            {y, x}, {h - 1 - y, x}, {y, w - 1 - x}, {h - 1 - y, w - 1 - x}};
        return w * to[turn][1] + to[turn][0];
    }

    boolean keeps(int turn) {
        if (turn < 0 || turn >= turns()) {
            return false;
        }
        boolean[][] beside = new boolean[n][n];
        boolean[][] wall = new boolean[n][n];
        for (int a = 0; a < n; a++) {
            for (int b : neighbours(a)) {
                beside[a][b] = true;
                wall[a][b] = walled(a, b);
            }
        }
        for (int a = 0; a < n; a++) {
            int c = image(turn, a);
            if (marks[a] != marks[c]) {
                return false;
            }
            for (int b = 0; b < n; b++) {
                int d = image(turn, b);
                if (beside[a][b] != beside[c][d] || wall[a][b] != wall[c][d]) {
                    return false;
                }
            }
        }
        return true;
    }

    int keeping() {
        int found = 0;
        for (int turn = 0; turn < turns(); turn++) {
            found += keeps(turn) ? 1 : 0;
        }
        return found;
    }

    String wholeText() {
        StringBuilder s = new StringBuilder();
        int p = 0;
        while (p < n) {
            if (marks[p] > 0) {
                s.append(p > 0 && marks[p - 1] > 0 ? " " : "").append(marks[p]);
                p++;
            } else {
                int run = 0;
                while (p < n && marks[p] == 0) {
                    run++;
                    p++;
                }
                s.append("z".repeat(run / 26));
                s.append(run % 26 == 0 ? "" : String.valueOf((char) ('a' + run % 26 - 1)));
            }
        }
        return s.toString();
    }

    int text(int i) {
        String s = wholeText();
        return i < 0 || i >= s.length() ? -1 : s.charAt(i);
    }

    boolean unit(int u) {
        if (u < 0 || u > 255 || came.length() >= 1200) {
            return false;
        }
        came.append((char) u);
        return true;
    }

    private static boolean digit(String s, int i) {
        return i >= 0 && i < s.length() && s.charAt(i) >= '0' && s.charAt(i) <= '9';
    }

    /** The fault at byte i by the document's list, each looked for by the text alone. */
    private boolean canStand(String s, int i) {
        int left = n;
        for (int j = 0; j < i; j++) {
            if (digit(s, j) && !digit(s, j - 1)) {
                left--;
            } else if (s.charAt(j) >= 'a') {
                left -= s.charAt(j) - 'a' + 1;
            }
        }
        char c = s.charAt(i);
        if (c == ' ') {
            return digit(s, i - 1) && digit(s, i + 1);
        }
        if (digit(s, i)) {
            boolean begins = !digit(s, i - 1);
            boolean third = digit(s, i - 1) && digit(s, i - 2);
            return !third && !(begins && (c == '0' || left < 1));
        }
        return c >= 'a' && c <= 'z' && c - 'a' + 1 <= left;
    }

    int read() {
        String s = came.toString();
        came.setLength(0);
        for (int i = 0; i < s.length(); i++) {
            if (!canStand(s, i)) {
                return -1 - i;
            }
        }
        List<Integer> list = new ArrayList<>();
        for (int i = 0; i < s.length(); i++) {
            if (digit(s, i) && digit(s, i - 1)) {
                list.set(list.size() - 1, Integer.parseInt(s.substring(i - 1, i + 1)));
            } else if (digit(s, i)) {
                list.add(s.charAt(i) - '0');
            } else if (s.charAt(i) != ' ') {
                for (int k = s.charAt(i) - 'a'; k >= 0; k--) {
                    list.add(0);
                }
            }
        }
        if (list.size() < n) {
            return -1 - s.length();
        }
        for (int p = 0; p < n; p++) {
            marks[p] = list.get(p);
        }
        return n;
    }
}
