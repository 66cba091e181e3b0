/** Each sentence of promises 1 to 18 that names a boundary case, in a test of its own. */
public final class BoundariesTest {
    private static final int LEAST = Integer.MIN_VALUE;
    private static final int GREATEST = Integer.MAX_VALUE;

    /** How many turns there are of each of the grids that eachKind(3, 2) and (3, 3) make. */
    private static final int[][] TURNS = {{4, 4, 4, 6, 1}, {8, 8, 8, 6, 1}};

    private static final Checks checks = new Checks();

    private BoundariesTest() {
    }

    public static void main(String[] args) {
        promise1();
        promises2To5();
        promises6To8();
        promises9To12();
        promises13To15();
        promises16To18();
        noSuchPlace();
        checks.finish();
    }

    private static void promise1() {
        checks.sentence("1: Kind 0 .. 4", BoundariesTest::kinds);
        checks.sentence("1: kind: less counts as the least", BoundariesTest::kindTooSmall);
        checks.sentence("1: kind: more as the greatest", BoundariesTest::kindTooLarge);
        checks.sentence("1: width 1 .. 16", BoundariesTest::widths);
        checks.sentence("1: width: less counts as the least", BoundariesTest::widthTooSmall);
        checks.sentence("1: width: more as the greatest", BoundariesTest::widthTooLarge);
        checks.sentence("1: height 1 .. 16", BoundariesTest::heights);
        checks.sentence("1: height: less counts as the least", BoundariesTest::heightTooSmall);
        checks.sentence("1: height: more as the greatest", BoundariesTest::heightTooLarge);
        checks.sentence("1: a graph has height 1", BoundariesTest::heightOfGraphs);
    }

    private static void promises2To5() {
        checks.sentence("2: Two places of a graph are neighbours: true", BoundariesTest::joined);
        checks.sentence("2: false, doing nothing, when they are so already",
                BoundariesTest::joinedAlready);
        checks.sentence("2: false, doing nothing, when they .. are one",
                BoundariesTest::joinedToItself);
        checks.sentence("2: false, doing nothing, when .. it is no graph",
                BoundariesTest::joinedInNoGraph);
        checks.sentence("3: How many places", BoundariesTest::fewestAndMostPlaces);
        checks.sentence("4: How many neighbours a place has", BoundariesTest::fewestAndMostDegrees);
        checks.sentence("4: with next, how many are NEXT to it", BoundariesTest::degreesOfNext);
        checks.sentence("5: from 0 on, those that there are, in order",
                BoundariesTest::neighboursThatThereAre);
        checks.sentence("5: -1 when there is none", BoundariesTest::noSuchNeighbour);
    }

    private static void promises6To8() {
        checks.sentence("6: A wall stands, or does not any more: true",
                BoundariesTest::wallsPutAndTaken);
        checks.sentence("6: false when they are no neighbours", BoundariesTest::wallsOfNoNeighbours);
        checks.sentence("6: false when .. it is so already", BoundariesTest::wallsThatAreSoAlready);
        checks.sentence("7: How many pairs of neighbours", BoundariesTest::fewestAndMostPairs);
        checks.sentence("7: when walled: of those with a wall", BoundariesTest::walledPairs);
        checks.sentence("8: ordered by the lesser place, then the greater",
                BoundariesTest::pairsInOrder);
        checks.sentence("8: -1 when there is none", BoundariesTest::noSuchPair);
    }

    private static void promises9To12() {
        checks.sentence("9: The i-th place (from 0 on)", BoundariesTest::seenFromZeroOn);
        checks.sentence("9: -1 when there is none", BoundariesTest::noneSeen);
        checks.sentence("9: -1 when .. no such direction", BoundariesTest::noSuchDirection);
        checks.sentence("10: The length of the shortest WAY", BoundariesTest::shortestWays);
        checks.sentence("10: -1 without one", BoundariesTest::noWay);
        checks.sentence("11: of all places", BoundariesTest::partsOfAll);
        checks.sentence("11: of one area (their parts by places of it alone)",
                BoundariesTest::partsOfAnArea);
        checks.sentence("11: when area is not below 0", BoundariesTest::partsOfAreaZero);
        checks.sentence("11: 0 for an area without places", BoundariesTest::partsOfNoPlaces);
        checks.sentence("12: of the others without a place", BoundariesTest::partsOfTheOthers);
    }

    private static void promises13To15() {
        checks.sentence("13: A place's area: true", BoundariesTest::areaWithin);
        checks.sentence("13: false when it is not 0 .. places less 1", BoundariesTest::areaBeyond);
        checks.sentence("14: How many places an area has", BoundariesTest::fewestAndMostOfAnArea);
        checks.sentence("15: A place's mark: true", BoundariesTest::markWithin);
        checks.sentence("15: false when it is not 0 .. 99", BoundariesTest::markBeyond);
    }

    private static void promises16To18() {
        checks.sentence("16: Where a TURN puts a place", BoundariesTest::imagesOfAll);
        checks.sentence("16: -1 when there is no such turn", BoundariesTest::noSuchTurn);
        checks.sentence("17: Whether a turn KEEPS the grid", BoundariesTest::firstTurnKeepsAll);
        checks.sentence("17: false when there is no such turn", BoundariesTest::noSuchTurnKeeps);
        checks.sentence("18: How many turns keep the grid", BoundariesTest::fewestAndMostKeeping);
    }

    private static void noSuchPlace() {
        String words = " ArrayIndexOutOfBoundsException: no such place";
        checks.sentence("2:" + words, () -> refusesBoth("join", (g, a, b) -> g.join(a, b)));
        checks.sentence("4:" + words, () -> refuses("degree", (g, p) -> g.degree(p, false)));
        checks.sentence("4: next:" + words, () -> refuses("degree", (g, p) -> g.degree(p, true)));
        checks.sentence("5:" + words, () -> refuses("neighbour", (g, p) -> g.neighbour(p, 0)));
        checks.sentence("5: no k:" + words, () -> refuses("neighbour", (g, p) -> g.neighbour(p, -1)));
        checks.sentence("6:" + words, () -> refusesBoth("wall", (g, a, b) -> g.wall(a, b, true)));
        checks.sentence("6: off:" + words, () -> refusesBoth("wall", (g, a, b) -> g.wall(a, b, false)));
        checks.sentence("9:" + words, () -> refuses("seen", (g, p) -> g.seen(p, 0, 0)));
        checks.sentence("9: no i:" + words, () -> refuses("seen", (g, p) -> g.seen(p, 0, -1)));
        checks.sentence("9: no direction:" + words, () -> refuses("seen", (g, p) -> g.seen(p, 9, 0)));
        checks.sentence("10:" + words, () -> refusesBoth("far", (g, a, b) -> g.far(a, b)));
        checks.sentence("12:" + words, () -> refuses("without", (g, p) -> g.without(p)));
        checks.sentence("13:" + words, () -> refuses("area", (g, p) -> g.area(p, 1)));
        checks.sentence("13: no number:" + words, () -> refuses("area", (g, p) -> g.area(p, -1)));
        checks.sentence("15:" + words, () -> refuses("mark", (g, p) -> g.mark(p, 1)));
        checks.sentence("15: no v:" + words, () -> refuses("mark", (g, p) -> g.mark(p, 100)));
        checks.sentence("16:" + words, () -> refuses("image", (g, p) -> g.image(0, p)));
        checks.sentence("16: no turn:" + words, () -> refuses("image", (g, p) -> g.image(-1, p)));
    }

    private interface CallWithPlace {
        void on(GridShapes g, int place);
    }

    private interface CallWithTwo {
        void on(GridShapes g, int a, int b);
    }

    /** The least and the greatest place are taken, those beyond are refused and change nothing. */
    private static void refuses(String name, CallWithPlace call) {
        for (GridShapes g : Grids.eachKind(3, 2)) {
            String before = Tell.all(g);
            int[] beyond = {-1, 6, LEAST, GREATEST};
            for (int place : beyond) {
                checks.noSuchPlace(name + " of " + place, () -> call.on(g, place));
            }
            checks.due(name + " did nothing", Tell.all(g), before);
            call.on(g, 0);
            call.on(g, 5);
        }
    }

    private static void refusesBoth(String name, CallWithTwo call) {
        refuses(name + " a", (g, a) -> call.on(g, a, 5));
        refuses(name + " b", (g, b) -> call.on(g, 0, b));
        refuses(name + " a and b", (g, place) -> call.on(g, place, place));
    }

    private static void kinds() {
        String[] middles = {"1 5 7 3", "2 5 8 7 3 1", "3 5 7", "1 5 7 3", ""};
        for (int kind = 0; kind <= 3; kind++) {
            checks.due("kind " + kind, Tell.neighbours(new GridShapes(kind, 3, 3), 4), middles[kind]);
        }
        checks.due("squares end", new GridShapes(0, 3, 3).wall(5, 3, true), false);
        checks.due("rings go round", new GridShapes(3, 3, 3).wall(5, 3, true), true);
        checks.due("kind 4", Tell.neighbours(new GridShapes(4, 9, 1), 4), middles[4]);
        checks.due("kind 4 can be joined", new GridShapes(4, 9, 1).join(4, 8), true);
    }

    private static void kindTooSmall() {
        int[] kinds = {-1, -2, -5, LEAST};
        for (int kind : kinds) {
            GridShapes g = new GridShapes(kind, 3, 3);
            checks.due("places of kind " + kind, g.places(), 9);
            checks.due("kind " + kind, Tell.neighbours(g, 4), "1 5 7 3");
            checks.due("no ring, kind " + kind, Tell.neighbours(g, 3), "0 4 6");
        }
    }

    private static void kindTooLarge() {
        int[] kinds = {5, 6, 9, GREATEST};
        for (int kind : kinds) {
            GridShapes g = new GridShapes(kind, 3, 3);
            checks.due("places of kind " + kind, g.places(), 3);
            checks.due("nobody joined, kind " + kind, g.pairs(false), 0);
            checks.due("joined, kind " + kind, g.join(0, 2), true);
        }
    }

    private static void widths() {
        for (int kind = 0; kind <= 4; kind++) {
            for (int w = 1; w <= 16; w++) {
                checks.due("width " + w, new GridShapes(kind, w, 1).places(), w);
            }
        }
    }

    private static void widthTooSmall() {
        int[] widths = {0, -1, -16, LEAST};
        for (int w : widths) {
            for (int kind = 0; kind <= 4; kind++) {
                GridShapes g = new GridShapes(kind, w, 3);
                checks.due("width " + w, g.places(), kind == 4 ? 1 : 3);
                checks.due("a place aside", g.seen(0, 1, 0), -1);
            }
            checks.due("below", Grids.squares(w, 3).seen(0, 2, 1), 2);
        }
    }

    private static void widthTooLarge() {
        int[] widths = {17, 18, 256, GREATEST};
        for (int w : widths) {
            for (int kind = 0; kind <= 4; kind++) {
                checks.due("width " + w, new GridShapes(kind, w, 2).places(), kind == 4 ? 16 : 32);
            }
            checks.due("below", Grids.squares(w, 2).seen(0, 2, 0), 16);
        }
    }

    private static void heights() {
        for (int kind = 0; kind <= 3; kind++) {
            for (int h = 1; h <= 16; h++) {
                checks.due("height " + h, new GridShapes(kind, 1, h).places(), h);
            }
        }
    }

    private static void heightTooSmall() {
        int[] heights = {0, -1, -16, LEAST};
        for (int h : heights) {
            for (int kind = 0; kind <= 4; kind++) {
                checks.due("height " + h, new GridShapes(kind, 3, h).places(), 3);
            }
            checks.due("to the right", Grids.squares(3, h).seen(0, 1, 1), 2);
            checks.due("both too small", Grids.hexes(h, h).places(), 1);
        }
    }

    private static void heightTooLarge() {
        int[] heights = {17, 18, 256, GREATEST};
        for (int h : heights) {
            for (int kind = 0; kind <= 3; kind++) {
                checks.due("height " + h, new GridShapes(kind, 2, h).places(), 32);
            }
            checks.due("down to the last", Grids.squares(2, h).seen(0, 2, 14), 30);
            checks.due("both too large", Grids.hexes(h, h).places(), 256);
        }
    }

    private static void heightOfGraphs() {
        int[] heights = {LEAST, -1, 0, 1, 2, 7, 16, 17, GREATEST};
        for (int h : heights) {
            checks.due("height " + h, new GridShapes(4, 7, h).places(), 7);
            checks.due("height " + h + ", kind 5", new GridShapes(5, 7, h).places(), 7);
            checks.due("height " + h + ", width 99", new GridShapes(4, 99, h).places(), 16);
        }
    }

    private static void joined() {
        GridShapes g = Grids.graph(16);
        checks.due("first and last", g.join(0, 15), true);
        checks.due("last and the one before", g.join(15, 14), true);
        checks.due("seen from the first", Tell.neighbours(g, 0), "15");
        checks.due("seen from the last", Tell.neighbours(g, 15), "0 14");
        checks.due("of two", Grids.graph(2).join(1, 0), true);
        checks.due("no wall stands there", g.pairs(true), 0);
    }

    private static void joinedAlready() {
        GridShapes g = Grids.graph(5, 3, 1);
        g.wall(1, 3, true);
        String before = Tell.all(g);
        checks.due("the same way", g.join(3, 1), false);
        checks.due("the other way", g.join(1, 3), false);
        checks.due("did nothing, the wall stands", Tell.all(g), before);
        GridShapes full = Grids.fullGraph(16);
        checks.due("in a full graph", full.join(15, 0), false);
        checks.due("in a full graph, nothing more", full.pairs(false), 120);
    }

    private static void joinedToItself() {
        GridShapes g = Grids.graph(5, 3, 1);
        String before = Tell.all(g);
        for (int place = 0; place < 5; place++) {
            checks.due("place " + place, g.join(place, place), false);
        }
        checks.due("did nothing", Tell.all(g), before);
        checks.due("the one place", Grids.graph(1).join(0, 0), false);
    }

    private static void joinedInNoGraph() {
        for (int kind = 0; kind <= 3; kind++) {
            GridShapes g = new GridShapes(kind, 3, 3);
            String before = Tell.all(g);
            checks.due("far ones, kind " + kind, g.join(0, 8), false);
            checks.due("neighbours, kind " + kind, g.join(0, 1), false);
            checks.due("itself, kind " + kind, g.join(4, 4), false);
            checks.due("did nothing, kind " + kind, Tell.all(g), before);
            checks.due("height 1, kind " + kind, new GridShapes(kind, 5, 1).join(0, 2), false);
        }
    }

    private static void fewestAndMostPlaces() {
        for (int kind = 0; kind <= 4; kind++) {
            checks.due("fewest", new GridShapes(kind, 1, 1).places(), 1);
            checks.due("most", new GridShapes(kind, 16, 16).places(), kind == 4 ? 16 : 256);
        }
    }

    private static void fewestAndMostDegrees() {
        for (GridShapes g : Grids.eachKind(1, 1)) {
            checks.due("fewest", g.degree(0, false), 0);
        }
        checks.due("squares' most", Grids.squares(3, 3).degree(4, false), 4);
        checks.due("squares' corner", Grids.squares(3, 3).degree(8, false), 2);
        checks.due("hexes' most", Grids.hexes(3, 3).degree(4, false), 6);
        checks.due("hexes' fewest in a corner", Grids.hexes(3, 3).degree(0, false), 2);
        checks.due("triangles' most", Grids.triangles(3, 3).degree(4, false), 3);
        checks.due("triangles' corner", Grids.triangles(4, 3).degree(3, false), 1);
        checks.due("rings' most", Grids.rings(3, 3).degree(4, false), 4);
        checks.due("innermost ring's", Grids.rings(3, 3).degree(0, false), 3);
        checks.due("graph's most", Grids.fullGraph(16).degree(9, false), 15);
        checks.due("graph's fewest", Grids.graph(16).degree(9, false), 0);
    }

    private static void degreesOfNext() {
        GridShapes s = Grids.squares(3, 3);
        s.wall(4, 1, true);
        s.wall(3, 4, true);
        checks.due("two walls", s.degree(4, true), 2);
        checks.due("two walls, neighbours", s.degree(4, false), 4);
        checks.due("behind one wall", s.degree(3, true), 2);
        checks.due("away from the walls", s.degree(8, true), 2);
        GridShapes full = Grids.fullGraph(8);
        for (int place = 0; place < 7; place++) {
            full.wall(7, place, true);
        }
        checks.due("walled in", full.degree(7, true), 0);
        checks.due("walled in, neighbours", full.degree(7, false), 7);
        checks.due("one behind", full.degree(0, true), 6);
    }

    private static void neighboursThatThereAre() {
        GridShapes s = Grids.squares(3, 3);
        checks.due("first of a corner", s.neighbour(6, 0), 3);
        checks.due("second of a corner, none below", s.neighbour(6, 1), 7);
        checks.due("first of the upper right one, none above", s.neighbour(2, 0), 5);
        checks.due("fourth of the middle", s.neighbour(4, 3), 3);
        checks.due("sixth of a hex", Grids.hexes(3, 3).neighbour(4, 5), 1);
        checks.due("fifteenth of a graph", Grids.fullGraph(16).neighbour(0, 14), 15);
        s.wall(6, 3, true);
        checks.due("walls take none away", s.neighbour(6, 0), 3);
    }

    private static void noSuchNeighbour() {
        for (GridShapes g : Grids.eachKind(4, 3)) {
            for (int place = 0; place < 12; place++) {
                int degree = g.degree(place, false);
                checks.due("the last there is", g.neighbour(place, degree - 1) >= 0, true);
                checks.due("one more", g.neighbour(place, degree), -1);
            }
            checks.due("-1", g.neighbour(5, -1), -1);
            checks.due("least", g.neighbour(5, LEAST), -1);
            checks.due("greatest", g.neighbour(5, GREATEST), -1);
        }
        for (GridShapes g : Grids.eachKind(1, 1)) {
            checks.due("of the one place", g.neighbour(0, 0), -1);
        }
    }

    private static void wallsPutAndTaken() {
        for (GridShapes g : Grids.eachKind(4, 3)) {
            checks.due("put", g.wall(0, 1, true), true);
            checks.due("stands", g.pairs(true), 1);
            checks.due("taken from the other side", g.wall(1, 0, false), true);
            checks.due("does not stand", g.pairs(true), 0);
            checks.due("put from the other side", g.wall(1, 0, true), true);
            checks.due("stands again", g.pairs(true), 1);
            checks.due("taken", g.wall(0, 1, false), true);
            checks.due("none stands", g.pairs(true), 0);
        }
        checks.due("between last and first", Grids.rings(16, 1).wall(15, 0, true), true);
        checks.due("between the last two places", Grids.squares(16, 16).wall(254, 255, true), true);
    }

    private static void wallsOfNoNeighbours() {
        GridShapes[] each = Grids.eachKind(4, 4);
        for (GridShapes g : each) {
            checks.due("far ones", g.wall(0, 15, true), false);
            checks.due("far ones, off", g.wall(0, 15, false), false);
            checks.due("one", g.wall(5, 5, true), false);
            checks.due("one, off", g.wall(5, 5, false), false);
            checks.due("two steps", g.wall(0, 2, true), false);
            checks.due("none stands", g.pairs(true), 0);
        }
        checks.due("squares' diagonal", each[0].wall(0, 5, true), false);
        checks.due("squares' row to row", each[0].wall(3, 4, true), false);
        checks.due("squares do not go round", each[0].wall(0, 3, true), false);
        checks.due("hexes' other side", each[1].wall(1, 6, true), false);
        checks.due("triangles pointing down have none below", each[2].wall(1, 5, true), false);
        checks.due("no way from outermost to innermost", each[3].wall(0, 12, true), false);
        checks.due("rings of one", Grids.rings(1, 2).wall(1, 1, true), false);
        checks.due("not joined", Grids.graph(3, 0, 1).wall(1, 2, true), false);
    }

    private static void wallsThatAreSoAlready() {
        for (GridShapes g : Grids.eachKind(4, 3)) {
            checks.due("none to take", g.wall(0, 1, false), false);
            checks.due("none to take from the other side", g.wall(1, 0, false), false);
            g.wall(0, 1, true);
            checks.due("stands already", g.wall(0, 1, true), false);
            checks.due("stands already from the other side", g.wall(1, 0, true), false);
            checks.due("one stands", g.pairs(true), 1);
            g.wall(0, 1, false);
            checks.due("taken already", g.wall(0, 1, false), false);
            checks.due("taken already from the other side", g.wall(1, 0, false), false);
            checks.due("none stands", g.pairs(true), 0);
        }
    }

    private static void fewestAndMostPairs() {
        for (GridShapes g : Grids.eachKind(1, 1)) {
            checks.due("fewest", g.pairs(false), 0);
        }
        checks.due("squares' most", Grids.squares(16, 16).pairs(false), 480);
        checks.due("hexes' most", Grids.hexes(16, 16).pairs(false), 705);
        checks.due("triangles' most", Grids.triangles(16, 16).pairs(false), 360);
        checks.due("rings' most", Grids.rings(16, 16).pairs(false), 496);
        checks.due("graph's most", Grids.fullGraph(16).pairs(false), 120);
        checks.due("graph's fewest", Grids.graph(16).pairs(false), 0);
        checks.due("ring of one", Grids.rings(1, 1).pairs(false), 0);
        checks.due("ring of two", Grids.rings(2, 1).pairs(false), 1);
        checks.due("ring of three", Grids.rings(3, 1).pairs(false), 3);
    }

    private static void walledPairs() {
        for (GridShapes g : Grids.eachKind(3, 3)) {
            int all = g.pairs(false);
            checks.due("none", g.pairs(true), 0);
            g.wall(0, 1, true);
            checks.due("one", g.pairs(true), 1);
            checks.due("all with that one", g.pairs(false), all);
            Grids.walledUp(g);
            checks.due("each", g.pairs(true), all);
            g.wall(2, 1, false);
            checks.due("each but one", g.pairs(true), all - 1);
        }
    }

    private static void pairsInOrder() {
        checks.due("squares", Tell.pairs(Grids.squares(3, 2)), "0-1 0-3 1-2 1-4 2-5 3-4 4-5");
        checks.due("hexes", Tell.pairs(Grids.hexes(3, 2)), "0-1 0-3 1-2 1-3 1-4 2-4 2-5 3-4 4-5");
        checks.due("triangles", Tell.pairs(Grids.triangles(3, 2)), "0-1 0-3 1-2 2-5 3-4 4-5");
        checks.due("rings", Tell.pairs(Grids.rings(3, 2)), "0-1 0-2 0-3 1-2 1-4 2-5 3-4 3-5 4-5");
        checks.due("graph", Tell.pairs(Grids.graph(5, 4, 2, 3, 0, 2, 0)), "0-2 0-3 2-4");
        GridShapes walled = Grids.walledUp(Grids.squares(2, 2));
        checks.due("walls take none away", Tell.pairs(walled), "0-1 0-2 1-3 2-3");
    }

    private static void noSuchPair() {
        for (GridShapes g : Grids.eachKind(3, 3)) {
            int pairs = g.pairs(false);
            checks.due("the last, greater", g.pair(pairs - 1, true), 8);
            int[] wrong = {-1, pairs, pairs + 1, LEAST, GREATEST};
            for (int k : wrong) {
                checks.due("lesser of " + k, g.pair(k, false), -1);
                checks.due("greater of " + k, g.pair(k, true), -1);
            }
        }
        checks.due("of one place", Grids.squares(1, 1).pair(0, false), -1);
        checks.due("of a graph that nobody joined", Grids.graph(16).pair(0, true), -1);
        checks.due("the last of the most", Grids.hexes(16, 16).pair(704, false), 254);
        checks.due("behind the most", Grids.hexes(16, 16).pair(705, false), -1);
    }

    private static void seenFromZeroOn() {
        GridShapes g = Grids.squares(16, 16);
        checks.due("first", g.seen(0, 1, 0), 1);
        checks.due("last", g.seen(0, 1, 14), 15);
        checks.due("last below", g.seen(0, 2, 14), 240);
        checks.due("last of a ring", Grids.rings(16, 1).seen(0, 3, 14), 1);
    }

    private static void noneSeen() {
        GridShapes[] each = {Grids.squares(4, 1), Grids.hexes(4, 1), Grids.rings(4, 1)};
        for (GridShapes g : each) {
            checks.due("last", g.seen(0, 1, 2), 3);
            checks.due("behind the last", g.seen(0, 1, 3), -1);
            checks.due("two behind the last", g.seen(0, 1, 4), -1);
            checks.due("-1", g.seen(0, 1, -1), -1);
            checks.due("least", g.seen(0, 1, LEAST), -1);
            checks.due("greatest", g.seen(0, 1, GREATEST), -1);
            checks.due("nothing that way", g.seen(0, 0, 0), -1);
        }
        GridShapes walled = Grids.squares(2, 1);
        walled.wall(0, 1, true);
        checks.due("behind a wall", walled.seen(0, 1, 0), -1);
        checks.due("triangles' end", Grids.triangles(4, 1).seen(3, 1, 0), -1);
    }

    private static void noSuchDirection() {
        GridShapes[] each = Grids.eachKind(3, 3);
        int[] directions = {4, 6, 2, 4, 0};
        for (int kind = 0; kind < each.length; kind++) {
            int[] wrong = {-1, directions[kind], directions[kind] + 1, LEAST, GREATEST};
            for (int direction : wrong) {
                checks.due("kind " + kind + ", direction " + direction,
                        each[kind].seen(4, direction, 0), -1);
            }
        }
    }

    private static void shortestWays() {
        GridShapes s = Grids.squares(16, 16);
        checks.due("to itself", s.far(77, 77), 0);
        checks.due("to a neighbour", s.far(0, 16), 1);
        checks.due("from corner to corner", s.far(0, 255), 30);
        checks.due("and back", s.far(255, 0), 30);
        checks.due("the shorter way round", Grids.rings(7, 1).far(0, 5), 2);
        checks.due("the shorter of two", Grids.graph(5, 0, 1, 1, 2, 2, 3, 0, 4, 4, 3).far(0, 3), 2);
        GridShapes walled = Grids.squares(2, 2);
        walled.wall(0, 1, true);
        checks.due("round a wall", walled.far(0, 1), 3);
    }

    private static void noWay() {
        GridShapes line = Grids.squares(3, 1);
        line.wall(1, 2, true);
        checks.due("behind a wall", line.far(0, 2), -1);
        checks.due("from there", line.far(2, 0), -1);
        checks.due("before it", line.far(0, 1), 1);
        checks.due("to itself, walled in", line.far(2, 2), 0);
        checks.due("not joined", Grids.graph(4, 0, 1, 2, 3).far(1, 2), -1);
        checks.due("not joined to itself", Grids.graph(4).far(2, 2), 0);
        checks.due("triangles of one column", Grids.triangles(1, 4).far(1, 2), -1);
        checks.due("other rings of one", Grids.rings(1, 4).far(0, 3), 3);
    }

    private static void partsOfAll() {
        GridShapes g = Grids.squares(3, 1);
        g.area(1, 1);
        checks.due("-1", g.parts(-1), 1);
        checks.due("-2", g.parts(-2), 1);
        checks.due("least", g.parts(LEAST), 1);
        g.wall(0, 1, true);
        checks.due("with a wall", g.parts(-1), 2);
        checks.due("one place", Grids.squares(1, 1).parts(-1), 1);
        checks.due("most", Grids.graph(16).parts(-1), 16);
    }

    private static void partsOfAnArea() {
        GridShapes s = Grids.squares(3, 3);
        int[] round = {0, 1, 2, 3, 5, 6, 7, 8};
        for (int place : round) {
            s.area(place, 8);
        }
        checks.due("a ring round a place", s.parts(8), 1);
        checks.due("the place in it", s.parts(0), 1);
        s.area(1, 0);
        s.area(7, 0);
        checks.due("left and right", s.parts(8), 2);
        checks.due("from above to below", s.parts(0), 1);
        s.area(4, 3);
        checks.due("no way by another area", s.parts(0), 2);
        s.wall(0, 3, true);
        checks.due("a wall in it", s.parts(8), 3);
        s.wall(0, 1, true);
        checks.due("a wall beside it", s.parts(8), 3);
        GridShapes r = Grids.rings(5, 1);
        r.area(4, 2);
        r.area(0, 2);
        checks.due("round the ring", r.parts(2), 1);
        checks.due("the rest of the ring", r.parts(0), 1);
    }

    private static void partsOfAreaZero() {
        GridShapes g = Grids.squares(3, 1);
        g.area(1, 1);
        checks.due("area 0 is one area", g.parts(0), 2);
        checks.due("below it is all", g.parts(-1), 1);
        g.area(0, 2);
        checks.due("the greatest area", g.parts(2), 1);
    }

    private static void partsOfNoPlaces() {
        for (GridShapes g : Grids.eachKind(3, 2)) {
            checks.due("area 1", g.parts(1), 0);
            checks.due("the greatest area", g.parts(5), 0);
            checks.due("beyond it", g.parts(6), 0);
            checks.due("greatest", g.parts(GREATEST), 0);
            for (int place = 0; place < 6; place++) {
                g.area(place, 5);
            }
            checks.due("area 0 without places", g.parts(0), 0);
            checks.due("all in the greatest", g.parts(5), g.parts(-1));
        }
    }

    private static void partsOfTheOthers() {
        for (GridShapes g : Grids.eachKind(1, 1)) {
            checks.due("no others", g.without(0), 0);
        }
        for (GridShapes g : Grids.eachKind(2, 1)) {
            checks.due("one other", g.without(1), 1);
        }
        checks.due("between two", Grids.squares(3, 1).without(1), 2);
        checks.due("at the end", Grids.squares(3, 1).without(2), 1);
        checks.due("of a ring", Grids.rings(3, 1).without(1), 1);
        checks.due("nobody joined", Grids.graph(16).without(15), 15);
        checks.due("star", Grids.graph(5, 0, 1, 0, 2, 0, 3, 0, 4).without(0), 4);
        checks.due("first of the most", Grids.hexes(16, 16).without(0), 1);
        GridShapes g = Grids.squares(3, 1);
        g.without(1);
        checks.due("it is still there", g.parts(-1), 1);
        g.area(0, 2);
        checks.due("areas do not count", g.without(2), 1);
        g.wall(0, 1, true);
        checks.due("walls do", g.without(2), 2);
    }

    private static void areaWithin() {
        for (GridShapes g : Grids.eachKind(3, 2)) {
            checks.due("greatest of the last place", g.area(5, 5), true);
            checks.due("is so", g.size(5), 1);
            checks.due("again", g.area(5, 5), true);
            checks.due("is still so", g.size(5), 1);
            checks.due("least of the last place", g.area(5, 0), true);
            checks.due("is gone", g.size(5), 0);
            checks.due("all are back", g.size(0), 6);
        }
        checks.due("the one area of one place", Grids.squares(1, 1).area(0, 0), true);
        checks.due("greatest of the most", Grids.squares(16, 16).area(255, 255), true);
        checks.due("greatest of a graph", Grids.graph(16).area(0, 15), true);
    }

    private static void areaBeyond() {
        for (GridShapes g : Grids.eachKind(3, 2)) {
            g.area(2, 4);
            String before = Tell.all(g);
            int[] wrong = {-1, 6, 7, LEAST, GREATEST};
            for (int number : wrong) {
                checks.due("number " + number, g.area(2, number), false);
            }
            checks.due("did nothing", Tell.all(g), before);
        }
        checks.due("one place", Grids.squares(1, 1).area(0, 1), false);
        checks.due("most places", Grids.squares(16, 16).area(0, 256), false);
        checks.due("a graph, whatever height", new GridShapes(4, 4, 4).area(0, 4), false);
    }

    private static void fewestAndMostOfAnArea() {
        for (GridShapes g : Grids.eachKind(3, 2)) {
            checks.due("all at first", g.size(0), 6);
            checks.due("without places", g.size(1), 0);
            checks.due("greatest, without places", g.size(5), 0);
            checks.due("beyond", g.size(6), 0);
            checks.due("-1", g.size(-1), 0);
            checks.due("least", g.size(LEAST), 0);
            checks.due("greatest of all", g.size(GREATEST), 0);
            g.area(0, 5);
            g.area(5, 5);
            checks.due("first and last place", g.size(5), 2);
            checks.due("the rest", g.size(0), 4);
        }
        checks.due("the most", Grids.rings(16, 16).size(0), 256);
    }

    private static void markWithin() {
        for (GridShapes g : Grids.eachKind(3, 2)) {
            checks.due("least above 0", g.mark(0, 1), true);
            checks.due("greatest", g.mark(5, 99), true);
            checks.due("are so", Tell.text(g), "1d99");
            checks.due("again", g.mark(5, 99), true);
            checks.due("0", g.mark(0, 0), true);
            checks.due("is gone", Tell.text(g), "e99");
        }
    }

    private static void markBeyond() {
        for (GridShapes g : Grids.eachKind(3, 2)) {
            g.mark(2, 42);
            int[] wrong = {-1, 100, 101, LEAST, GREATEST};
            for (int v : wrong) {
                checks.due("mark " + v, g.mark(2, v), false);
                checks.due("did nothing", Tell.text(g), "b42c");
            }
        }
    }

    private static void imagesOfAll() {
        checks.due("first place of all to the last", Grids.squares(16, 16).image(3, 0), 255);
        checks.due("last place of all to the first", Grids.hexes(16, 16).image(7, 255), 0);
        checks.due("round a ring", Grids.rings(16, 16).image(2, 255), 240);
        checks.due("back round a ring", Grids.rings(16, 16).image(1, 241), 255);
        for (GridShapes g : Grids.eachKind(1, 1)) {
            checks.due("the one place", g.image(0, 0), 0);
        }
        GridShapes marked = Grids.squares(3, 1);
        marked.mark(0, 1);
        checks.due("whether or not it keeps the grid", marked.image(1, 0), 2);
    }

    private static void noSuchTurn() {
        for (int h = 2; h <= 3; h++) {
            GridShapes[] each = Grids.eachKind(3, h);
            for (int kind = 0; kind < each.length; kind++) {
                int turns = TURNS[h - 2][kind];
                checks.due("the last turn, kind " + kind, each[kind].image(turns - 1, 0) >= 0, true);
                int[] wrong = {-1, -2, turns, turns + 1, 32, LEAST, GREATEST};
                for (int turn : wrong) {
                    checks.due("kind " + kind + ", turn " + turn, each[kind].image(turn, 0), -1);
                }
            }
        }
    }

    private static void firstTurnKeepsAll() {
        for (GridShapes g : Grids.eachKind(3, 3)) {
            g.wall(0, 1, true);
            g.mark(5, 99);
            checks.due("turn 0, whatever stands there", g.keeps(0), true);
            checks.due("turn 1, with these", g.keeps(1), false);
        }
    }

    private static void noSuchTurnKeeps() {
        for (int h = 2; h <= 3; h++) {
            GridShapes[] each = Grids.eachKind(3, h);
            for (int kind = 0; kind < each.length; kind++) {
                int turns = TURNS[h - 2][kind];
                int[] wrong = {-1, -2, turns, turns + 1, 32, LEAST, GREATEST};
                for (int turn : wrong) {
                    checks.due("kind " + kind + ", turn " + turn, each[kind].keeps(turn), false);
                }
            }
        }
        checks.due("the last of squares", Grids.squares(3, 3).keeps(7), true);
        checks.due("the last of rings", Grids.rings(16, 1).keeps(31), true);
    }

    private static void fewestAndMostKeeping() {
        checks.due("most of squares", Grids.squares(16, 16).keeping(), 8);
        checks.due("most of rings", Grids.rings(16, 16).keeping(), 32);
        checks.due("rings of one", Grids.rings(1, 16).keeping(), 2);
        checks.due("one place", Grids.hexes(1, 1).keeping(), 8);
        checks.due("no square", Grids.squares(16, 15).keeping(), 4);
        checks.due("a graph", Grids.fullGraph(16).keeping(), 1);
        GridShapes g = Grids.squares(3, 3);
        g.mark(1, 1);
        checks.due("a mark in the middle of a side", g.keeping(), 2);
        g.wall(3, 6, true);
        checks.due("turn 0 alone", g.keeping(), 1);
    }
}
