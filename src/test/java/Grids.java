/** Short ways to make grids of each kind. */
final class Grids {
    static final int SQUARES = 0;
    static final int HEXES = 1;
    static final int TRIANGLES = 2;
    static final int RINGS = 3;
    static final int GRAPHS = 4;

    private Grids() {
    }

    static GridShapes squares(int w, int h) {
        return new GridShapes(SQUARES, w, h);
    }

    static GridShapes hexes(int w, int h) {
        return new GridShapes(HEXES, w, h);
    }

    static GridShapes triangles(int w, int h) {
        return new GridShapes(TRIANGLES, w, h);
    }

    static GridShapes rings(int w, int h) {
        return new GridShapes(RINGS, w, h);
    }

    /** A graph with the pairs given as a0, b0, a1, b1, .. */
    static GridShapes graph(int w, int... ends) {
        GridShapes g = new GridShapes(GRAPHS, w, 1);
        for (int i = 0; i + 1 < ends.length; i += 2) {
            g.join(ends[i], ends[i + 1]);
        }
        return g;
    }

    /** A graph in which everybody is joined to everybody. */
    static GridShapes fullGraph(int w) {
        GridShapes g = graph(w);
        for (int a = 0; a < w; a++) {
            for (int b = a + 1; b < w; b++) {
                g.join(a, b);
            }
        }
        return g;
    }

    /** One grid of each kind with the same number of places, the graph a line of them. */
    static GridShapes[] eachKind(int w, int h) {
        GridShapes line = graph(w * h);
        for (int place = 1; place < w * h; place++) {
            line.join(place - 1, place);
        }
        return new GridShapes[] {squares(w, h), hexes(w, h), triangles(w, h), rings(w, h), line};
    }

    /** Puts a wall between all neighbours. */
    static GridShapes walledUp(GridShapes g) {
        int pairs = g.pairs(false);
        for (int k = 0; k < pairs; k++) {
            g.wall(g.pair(k, false), g.pair(k, true), true);
        }
        return g;
    }
}
