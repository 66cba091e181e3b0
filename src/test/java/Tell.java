/** Answers of several calls put into one text, so that a test can say them in one line. */
final class Tell {
    private Tell() {
    }

    /** All neighbours of a place in their order. */
    static String neighbours(GridShapes g, int place) {
        StringBuilder s = new StringBuilder();
        int other = g.neighbour(place, 0);
        for (int k = 1; other >= 0; k++) {
            add(s, String.valueOf(other));
            other = g.neighbour(place, k);
        }
        return s.toString();
    }

    /** All places seen from a place in a direction. */
    static String seen(GridShapes g, int place, int direction) {
        StringBuilder s = new StringBuilder();
        int other = g.seen(place, direction, 0);
        for (int i = 1; other >= 0; i++) {
            add(s, String.valueOf(other));
            other = g.seen(place, direction, i);
        }
        return s.toString();
    }

    /** All pairs of neighbours in their order. */
    static String pairs(GridShapes g) {
        StringBuilder s = new StringBuilder();
        int lesser = g.pair(0, false);
        for (int k = 1; lesser >= 0; k++) {
            add(s, lesser + "-" + g.pair(k - 1, true));
            lesser = g.pair(k, false);
        }
        return s.toString();
    }

    /** Where a turn puts each place. */
    static String images(GridShapes g, int turn) {
        StringBuilder s = new StringBuilder();
        for (int place = 0; place < g.places(); place++) {
            add(s, String.valueOf(g.image(turn, place)));
        }
        return s.toString();
    }

    /** The turns that keep the grid. */
    static String keeping(GridShapes g) {
        StringBuilder s = new StringBuilder();
        for (int turn = -2; turn < 40; turn++) {
            if (g.keeps(turn)) {
                add(s, String.valueOf(turn));
            }
        }
        return s.toString();
    }

    /** The text of all marks. */
    static String text(GridShapes g) {
        StringBuilder s = new StringBuilder();
        int b = g.text(0);
        for (int i = 1; b >= 0; i++) {
            s.append((char) b);
            b = g.text(i);
        }
        return s.toString();
    }

    /** What read() answers when these bytes came before it. */
    static int read(GridShapes g, String bytes) {
        for (int i = 0; i < bytes.length(); i++) {
            g.unit(bytes.charAt(i));
        }
        return g.read();
    }

    /** All that can be asked of a small grid, so that a change of any of it shows. */
    static String all(GridShapes g) {
        StringBuilder s = new StringBuilder();
        for (int place = 0; place < g.places(); place++) {
            s.append(neighbours(g, place)).append('/').append(g.degree(place, true)).append(", ");
        }
        s.append(g.pairs(true)).append(" walls, ").append(g.parts(-1)).append(" parts, areas ");
        for (int area = 0; area < g.places(); area++) {
            s.append(g.size(area)).append('/').append(g.parts(area)).append(' ');
        }
        return s.append(text(g)).toString();
    }

    private static void add(StringBuilder s, String what) {
        if (s.length() > 0) {
            s.append(' ');
        }
        s.append(what);
    }
}
