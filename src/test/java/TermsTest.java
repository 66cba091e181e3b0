/** Each sentence of the document's 'Terms' that names a boundary case, in a test of its own. */
public final class TermsTest {
    private static final Checks checks = new Checks();

    private TermsTest() {
    }

    public static void main(String[] args) {
        places();
        neighbours();
        walls();
        seen();
        turns();
        keeps();
        checks.finish();
    }

    private static void places() {
        checks.sentence("PLACES 0 .. W H - 1", TermsTest::firstAndLastPlace);
        checks.sentence("(x, y) .. is place W y + x", TermsTest::rowByRow);
        checks.sentence("Each place has a MARK (0 .. 99, 0 at first)", TermsTest::markAtFirst);
        checks.sentence("an AREA (0 at first; 0 .. W H - 1)", TermsTest::areaAtFirst);
    }

    private static void neighbours() {
        checks.sentence("0 squares: above (y - 1), right (x + 1), below, left",
                TermsTest::squaresAtTheEdges);
        checks.sentence("1 hexes: rows with odd y are half a place to the right",
                TermsTest::hexesAtTheEdges);
        checks.sentence("2 triangles: .. below when it points up, above when not",
                TermsTest::trianglesAtTheEdges);
        checks.sentence("3 rings: .. the innermost has y 0: inward (y - 1) .. outward",
                TermsTest::innermostAndOutermost);
        checks.sentence("onward (x + 1, from the last to the first) .. backward",
                TermsTest::roundTheRing);
        checks.sentence("4 graphs: those that were joined to it, by their numbers",
                TermsTest::joinedByNumber);
        checks.sentence("Places beyond the grid are none", TermsTest::beyondTheGrid);
        checks.sentence("in rings of one place nobody is onward or backward",
                TermsTest::ringsOfOne);
        checks.sentence("in those of two the other one is onward alone", TermsTest::ringsOfTwo);
        checks.sentence("(rings of three are the least with both)", TermsTest::ringsOfThree);
    }

    private static void walls() {
        checks.sentence("Between two neighbours a WALL may stand", TermsTest::wallsBetweenAll);
        checks.sentence("NEXT to one another when they are neighbours without a wall between",
                TermsTest::nextWithoutWall);
        checks.sentence("A PART is all places that can be come to from one",
                TermsTest::partsFromOneToAll);
        checks.sentence("a WAY's length is how many steps it has", TermsTest::waysFromNoneToMost);
    }

    private static void seen() {
        checks.sentence("0 .. 3 in squares and rings", TermsTest::fourDirections);
        checks.sentence("0 .. 5 in hexes", TermsTest::sixDirections);
        checks.sentence("0 left and 1 right in triangles", TermsTest::twoDirections);
        checks.sentence("none in graphs", TermsTest::noDirections);
        checks.sentence("each the neighbour of the one before in that direction",
                TermsTest::oneBehindTheOther);
        checks.sentence("as long as no wall stands between", TermsTest::seenUpToWalls);
        checks.sentence("(rings) the place itself is not come to again",
                TermsTest::seenOnceRoundTheRing);
    }

    private static void turns() {
        checks.sentence("of all kinds 0: (x, y), 1: (W - 1 - x, y), 2: (x, H - 1 - y), 3: both",
                TermsTest::fourTurns);
        checks.sentence("and, when W is H, 4 .. 7", TermsTest::eightTurnsWhenWideAsHigh);
        checks.sentence("when W is H (and not otherwise)", TermsTest::noMoreTurnsOtherwise);
        checks.sentence("2 r: ((x + r) modulo W, y)", TermsTest::turnsOnward);
        checks.sentence("2 r + 1: ((r - x) modulo W, y)", TermsTest::turnsMirrored);
        checks.sentence("of rings instead, for r = 0 .. W - 1", TermsTest::turnsOfRingsInstead);
        checks.sentence("of graphs 0 alone", TermsTest::oneTurnOfGraphs);
    }

    private static void keeps() {
        checks.sentence("two places are neighbours just when those that they come to are",
                TermsTest::keepsNeighbours);
        checks.sentence("a wall stands just so", TermsTest::keepsWalls);
        checks.sentence("each one's mark is that of the place that it comes to",
                TermsTest::keepsMarks);
    }

    /** The neighbours of every place, by place, are as told. */
    private static void dueNeighbours(String of, GridShapes g, String... want) {
        checks.due(of + " places", g.places(), want.length);
        for (int place = 0; place < want.length; place++) {
            checks.due(of + " neighbours of " + place, Tell.neighbours(g, place), want[place]);
        }
    }

    private static void firstAndLastPlace() {
        for (GridShapes g : Grids.eachKind(5, 3)) {
            checks.due("first", g.far(0, 0), 0);
            checks.due("last", g.far(14, 14), 0);
            checks.noSuchPlace("before the first", () -> g.far(-1, -1));
            checks.noSuchPlace("behind the last", () -> g.far(15, 15));
        }
    }

    private static void rowByRow() {
        dueNeighbours("3 x 2", Grids.squares(3, 2), "1 3", "2 4 0", "5 1", "0 4", "1 5 3", "2 4");
        dueNeighbours("2 x 3", Grids.squares(2, 3), "1 2", "3 0", "0 3 4", "1 5 2", "2 5", "3 4");
    }

    private static void markAtFirst() {
        for (GridShapes g : Grids.eachKind(4, 4)) {
            checks.due("all marks", Tell.text(g), "p");
            checks.due("least", g.mark(15, 0), true);
            checks.due("greatest", g.mark(15, 99), true);
            checks.due("last mark", Tell.text(g), "o99");
            checks.due("below the least", g.mark(15, -1), false);
            checks.due("above the greatest", g.mark(15, 100), false);
        }
    }

    private static void areaAtFirst() {
        for (GridShapes g : Grids.eachKind(4, 4)) {
            checks.due("all in area 0", g.size(0), 16);
            checks.due("none in area 1", g.size(1), 0);
            checks.due("least", g.area(0, 0), true);
            checks.due("greatest", g.area(0, 15), true);
            checks.due("one in area 15", g.size(15), 1);
            checks.due("below the least", g.area(0, -1), false);
            checks.due("above the greatest", g.area(0, 16), false);
        }
    }

    private static void squaresAtTheEdges() {
        dueNeighbours("3 x 3", Grids.squares(3, 3), "1 3", "2 4 0", "5 1", "0 4 6", "1 5 7 3",
                "2 8 4", "3 7", "4 8 6", "5 7");
        dueNeighbours("one row", Grids.squares(3, 1), "1", "2 0", "1");
        dueNeighbours("one column", Grids.squares(1, 3), "1", "0 2", "1");
    }

    private static void hexesAtTheEdges() {
        dueNeighbours("3 x 4", Grids.hexes(3, 4), "1 3", "2 4 3 0", "5 4 1", "1 4 7 6 0",
                "2 5 8 7 3 1", "8 4 2", "3 7 9", "4 8 10 9 6 3", "5 11 10 7 4", "7 10 6",
                "8 11 9 7", "10 8");
        dueNeighbours("one row", Grids.hexes(3, 1), "1", "2 0", "1");
        dueNeighbours("one column", Grids.hexes(1, 3), "1", "2 0", "1");
    }

    private static void trianglesAtTheEdges() {
        dueNeighbours("4 x 3", Grids.triangles(4, 3), "1 4", "0 2", "1 3 6", "2", "5 0", "4 6 9",
                "5 7 2", "6 11", "9", "8 10 5", "9 11", "10 7");
        dueNeighbours("one row", Grids.triangles(4, 1), "1", "0 2", "1 3", "2");
        dueNeighbours("one column", Grids.triangles(1, 4), "1", "0", "3", "2");
    }

    private static void innermostAndOutermost() {
        dueNeighbours("4 x 3", Grids.rings(4, 3), "1 4 3", "2 5 0", "3 6 1", "0 7 2", "0 5 8 7",
                "1 6 9 4", "2 7 10 5", "3 4 11 6", "4 9 11", "5 10 8", "6 11 9", "7 8 10");
        GridShapes g = Grids.rings(16, 16);
        checks.due("innermost, inward", Tell.seen(g, 3, 0), "");
        checks.due("outermost, outward", Tell.seen(g, 243, 2), "");
    }

    private static void roundTheRing() {
        dueNeighbours("one ring", Grids.rings(5, 1), "1 4", "2 0", "3 1", "4 2", "0 3");
        GridShapes g = Grids.rings(16, 2);
        checks.due("last's onward", Tell.neighbours(g, 31), "15 16 30");
        checks.due("first's backward", Tell.neighbours(g, 16), "0 17 31");
        checks.due("last and first", g.far(16, 31), 1);
        checks.due("half round", g.far(16, 24), 8);
        checks.due("no row's end is the next row's begin", g.wall(15, 16, true), false);
    }

    private static void joinedByNumber() {
        dueNeighbours("at first", Grids.graph(3), "", "", "");
        dueNeighbours("one place", Grids.graph(1), "");
        dueNeighbours("joined in another order", Grids.graph(5, 3, 4, 3, 0, 2, 3, 1, 3), "3", "3",
                "3", "0 1 2 4", "3");
        GridShapes full = Grids.fullGraph(16);
        checks.due("first of all", Tell.neighbours(full, 0), "1 2 3 4 5 6 7 8 9 10 11 12 13 14 15");
        checks.due("one of all", Tell.neighbours(full, 7), "0 1 2 3 4 5 6 8 9 10 11 12 13 14 15");
        checks.due("last of all", Tell.neighbours(full, 15), "0 1 2 3 4 5 6 7 8 9 10 11 12 13 14");
    }

    private static void beyondTheGrid() {
        for (GridShapes g : Grids.eachKind(1, 1)) {
            dueNeighbours("one place", g, "");
            checks.due("degree of the one", g.degree(0, false), 0);
            for (int direction = 0; direction < 6; direction++) {
                checks.due("seen from the one", g.seen(0, direction, 0), -1);
            }
        }
        GridShapes[] grids = {Grids.squares(3, 2), Grids.hexes(3, 2), Grids.triangles(3, 2)};
        for (GridShapes g : grids) {
            checks.due("right of the first row's end", Tell.seen(g, 2, 1), "");
            checks.due("no neighbour of the next row's begin", g.wall(2, 3, true), false);
        }
    }

    private static void ringsOfOne() {
        GridShapes g = Grids.rings(1, 3);
        dueNeighbours("three rings", g, "1", "0 2", "1");
        checks.due("pairs", Tell.pairs(g), "0-1 1-2");
        for (int place = 0; place < 3; place++) {
            checks.due("onward", Tell.seen(g, place, 1), "");
            checks.due("backward", Tell.seen(g, place, 3), "");
            checks.due("no wall to itself", g.wall(place, place, true), false);
        }
        checks.due("outward", Tell.seen(g, 0, 2), "1 2");
        checks.due("inward", Tell.seen(g, 2, 0), "1 0");
        dueNeighbours("one ring", Grids.rings(1, 1), "");
    }

    private static void ringsOfTwo() {
        GridShapes g = Grids.rings(2, 2);
        dueNeighbours("two rings", g, "1 2", "0 3", "0 3", "1 2");
        checks.due("pairs", Tell.pairs(g), "0-1 0-2 1-3 2-3");
        for (int place = 0; place < 4; place++) {
            checks.due("degree", g.degree(place, false), 2);
            checks.due("onward", Tell.seen(g, place, 1), String.valueOf(place ^ 1));
            checks.due("backward", Tell.seen(g, place, 3), "");
        }
        checks.due("one wall parts them", g.wall(1, 0, true), true);
        checks.due("walls", g.pairs(true), 1);
        checks.due("next to 0", g.degree(0, true), 1);
        checks.due("next to 1", g.degree(1, true), 1);
        checks.due("onward behind the wall", Tell.seen(g, 0, 1), "");
        checks.due("round the wall", g.far(0, 1), 3);
    }

    private static void ringsOfThree() {
        GridShapes g = Grids.rings(3, 1);
        dueNeighbours("one ring", g, "1 2", "2 0", "0 1");
        checks.due("pairs", Tell.pairs(g), "0-1 0-2 1-2");
        checks.due("backward", Tell.seen(g, 0, 3), "2 1");
    }

    private static void wallsBetweenAll() {
        for (GridShapes g : Grids.eachKind(4, 3)) {
            checks.due("no wall at first", g.pairs(true), 0);
            Grids.walledUp(g);
            checks.due("a wall in each pair", g.pairs(true), g.pairs(false));
            checks.due("each place a part", g.parts(-1), 12);
            checks.due("no way", g.far(0, 1), -1);
            for (int direction = 0; direction < 6; direction++) {
                checks.due("nothing is seen", g.seen(5, direction, 0), -1);
            }
        }
    }

    private static void nextWithoutWall() {
        for (GridShapes g : Grids.eachKind(4, 3)) {
            int degree = g.degree(0, false);
            int degreeThere = g.degree(1, false);
            checks.due("next at first", g.degree(0, true), degree);
            g.wall(0, 1, true);
            checks.due("not next here", g.degree(0, true), degree - 1);
            checks.due("not next there", g.degree(1, true), degreeThere - 1);
            checks.due("still neighbours here", g.degree(0, false), degree);
            checks.due("still neighbours there", g.degree(1, false), degreeThere);
            g.wall(1, 0, false);
            checks.due("next again", g.degree(0, true), degree);
        }
        GridShapes up = Grids.walledUp(Grids.squares(3, 3));
        checks.due("walled up, still neighbours", up.degree(4, false), 4);
        checks.due("walled up, nobody is next", up.degree(4, true), 0);
    }

    private static void partsFromOneToAll() {
        checks.due("the one place", Grids.hexes(1, 1).parts(-1), 1);
        checks.due("all 256 places", Grids.squares(16, 16).parts(-1), 1);
        checks.due("256 rings' places", Grids.rings(16, 16).parts(-1), 1);
        checks.due("nobody joined", Grids.graph(16).parts(-1), 16);
        checks.due("everybody joined", Grids.fullGraph(16).parts(-1), 1);
        checks.due("triangles two by two", Grids.triangles(1, 16).parts(-1), 8);
        GridShapes ring = Grids.rings(6, 1);
        ring.wall(5, 0, true);
        checks.due("one wall does not part a ring", ring.parts(-1), 1);
        ring.wall(2, 3, true);
        checks.due("two walls do", ring.parts(-1), 2);
    }

    private static void waysFromNoneToMost() {
        checks.due("no step to itself", Grids.squares(2, 2).far(3, 3), 0);
        checks.due("one step", Grids.squares(2, 2).far(3, 2), 1);
        GridShapes comb = Grids.squares(16, 16);
        for (int y = 0; y < 15; y++) {
            int gap = y % 2 == 0 ? 15 : 0;
            for (int x = 0; x < 16; x++) {
                if (x != gap) {
                    comb.wall(16 * y + x, 16 * y + 16 + x, true);
                }
            }
        }
        checks.due("the longest way of all", comb.far(0, 240), 255);
        checks.due("and back", comb.far(240, 0), 255);
    }

    private static void fourDirections() {
        GridShapes[] grids = {Grids.squares(3, 3), Grids.rings(3, 3)};
        for (GridShapes g : grids) {
            checks.due("direction 0", g.seen(4, 0, 0), 1);
            checks.due("direction 1", g.seen(4, 1, 0), 5);
            checks.due("direction 2", g.seen(4, 2, 0), 7);
            checks.due("direction 3", g.seen(4, 3, 0), 3);
            checks.due("direction -1", g.seen(4, -1, 0), -1);
            checks.due("direction 4", g.seen(4, 4, 0), -1);
        }
    }

    private static void sixDirections() {
        GridShapes g = Grids.hexes(3, 3);
        checks.due("direction 0", g.seen(4, 0, 0), 2);
        checks.due("direction 1", g.seen(4, 1, 0), 5);
        checks.due("direction 2", g.seen(4, 2, 0), 8);
        checks.due("direction 3", g.seen(4, 3, 0), 7);
        checks.due("direction 4", g.seen(4, 4, 0), 3);
        checks.due("direction 5", g.seen(4, 5, 0), 1);
        checks.due("direction -1", g.seen(4, -1, 0), -1);
        checks.due("direction 6", g.seen(4, 6, 0), -1);
    }

    private static void twoDirections() {
        GridShapes g = Grids.triangles(5, 3);
        checks.due("left", Tell.seen(g, 7, 0), "6 5");
        checks.due("right", Tell.seen(g, 7, 1), "8 9");
        checks.due("not above", Tell.seen(g, 7, 2), "");
        checks.due("not below", Tell.seen(g, 6, 2), "");
        checks.due("direction -1", Tell.seen(g, 7, -1), "");
        checks.due("direction 3", Tell.seen(g, 7, 3), "");
    }

    private static void noDirections() {
        GridShapes g = Grids.fullGraph(8);
        for (int direction = -1; direction < 9; direction++) {
            checks.due("direction " + direction, g.seen(3, direction, 0), -1);
        }
    }

    private static void oneBehindTheOther() {
        checks.due("to the right end", Grids.squares(16, 1).seen(0, 1, 14), 15);
        checks.due("not beyond it", Grids.squares(16, 1).seen(0, 1, 15), -1);
        checks.due("from the end", Grids.squares(16, 1).seen(15, 1, 0), -1);
        checks.due("to the upper end", Grids.squares(1, 16).seen(15, 0, 14), 0);
        GridShapes h = Grids.hexes(3, 4);
        checks.due("up right", Tell.seen(h, 9, 0), "7 4 2");
        checks.due("up right, to the side", Tell.seen(h, 10, 0), "8 5");
        checks.due("down right", Tell.seen(h, 0, 2), "3 7 10");
        checks.due("down left", Tell.seen(h, 2, 3), "4 7 9");
        checks.due("down left, to the side", Tell.seen(h, 1, 3), "3 6");
        checks.due("up left", Tell.seen(h, 11, 5), "8 4 1");
    }

    private static void seenUpToWalls() {
        GridShapes s = Grids.squares(5, 1);
        s.wall(2, 3, true);
        checks.due("up to a wall", Tell.seen(s, 0, 1), "1 2");
        checks.due("at a wall", Tell.seen(s, 2, 1), "");
        checks.due("at its other side", Tell.seen(s, 3, 3), "");
        checks.due("away from it", Tell.seen(s, 3, 1), "4");
        GridShapes r = Grids.rings(5, 1);
        r.wall(4, 0, true);
        checks.due("a ring's wall between last and first", Tell.seen(r, 2, 1), "3 4");
        checks.due("and backward", Tell.seen(r, 2, 3), "1 0");
        GridShapes h = Grids.hexes(3, 3);
        h.wall(4, 8, true);
        checks.due("hexes", Tell.seen(h, 0, 2), "3 7");
        checks.due("hexes at the wall", Tell.seen(h, 4, 2), "");
        GridShapes t = Grids.triangles(4, 2);
        t.wall(2, 6, true);
        checks.due("a wall at the side hides nothing", Tell.seen(t, 0, 1), "1 2 3");
    }

    private static void seenOnceRoundTheRing() {
        GridShapes g = Grids.rings(4, 2);
        checks.due("onward", Tell.seen(g, 6, 1), "7 4 5");
        checks.due("backward", Tell.seen(g, 5, 3), "4 7 6");
        GridShapes wide = Grids.rings(16, 1);
        checks.due("last of 16", wide.seen(9, 1, 14), 8);
        checks.due("not itself", wide.seen(9, 1, 15), -1);
        checks.due("not the second time", wide.seen(9, 1, 16), -1);
        g.wall(5, 6, true);
        checks.due("up to a wall before itself", Tell.seen(g, 6, 1), "7 4 5");
        checks.due("two in a ring", Tell.seen(Grids.rings(2, 1), 1, 1), "0");
    }

    private static void fourTurns() {
        GridShapes[] grids = {Grids.squares(3, 2), Grids.hexes(3, 2), Grids.triangles(3, 2)};
        for (GridShapes g : grids) {
            checks.due("0", Tell.images(g, 0), "0 1 2 3 4 5");
            checks.due("1", Tell.images(g, 1), "2 1 0 5 4 3");
            checks.due("2", Tell.images(g, 2), "3 4 5 0 1 2");
            checks.due("3", Tell.images(g, 3), "5 4 3 2 1 0");
        }
    }

    private static void eightTurnsWhenWideAsHigh() {
        GridShapes[] grids = {Grids.squares(3, 3), Grids.hexes(3, 3), Grids.triangles(3, 3)};
        for (GridShapes g : grids) {
            checks.due("3", Tell.images(g, 3), "8 7 6 5 4 3 2 1 0");
            checks.due("4", Tell.images(g, 4), "0 3 6 1 4 7 2 5 8");
            checks.due("5", Tell.images(g, 5), "2 5 8 1 4 7 0 3 6");
            checks.due("6", Tell.images(g, 6), "6 3 0 7 4 1 8 5 2");
            checks.due("7", Tell.images(g, 7), "8 5 2 7 4 1 6 3 0");
            checks.due("8", g.image(8, 0), -1);
        }
        GridShapes one = Grids.squares(1, 1);
        checks.due("7 of one place", one.image(7, 0), 0);
        checks.due("8 of one place", one.image(8, 0), -1);
        checks.due("5 of 256 places", Grids.squares(16, 16).image(5, 0), 15);
    }

    private static void noMoreTurnsOtherwise() {
        for (int kind = Grids.SQUARES; kind <= Grids.TRIANGLES; kind++) {
            GridShapes wide = new GridShapes(kind, 4, 3);
            GridShapes high = new GridShapes(kind, 3, 4);
            checks.due("the last of a wide one", wide.image(3, 0), 11);
            checks.due("the last of a high one", high.image(3, 0), 11);
            for (int turn = 4; turn < 8; turn++) {
                checks.due("wide, " + turn, wide.image(turn, 0), -1);
                checks.due("high, " + turn, high.image(turn, 0), -1);
                checks.due("keeps, " + turn, wide.keeps(turn), false);
            }
        }
    }

    private static void turnsOnward() {
        GridShapes g = Grids.rings(5, 2);
        checks.due("r 0", Tell.images(g, 0), "0 1 2 3 4 5 6 7 8 9");
        checks.due("r 1", Tell.images(g, 2), "1 2 3 4 0 6 7 8 9 5");
        checks.due("r 4", Tell.images(g, 8), "4 0 1 2 3 9 5 6 7 8");
        checks.due("the last of 16", Grids.rings(16, 1).image(30, 0), 15);
        checks.due("round the last of 16", Grids.rings(16, 1).image(30, 15), 14);
    }

    private static void turnsMirrored() {
        GridShapes g = Grids.rings(5, 2);
        checks.due("r 0", Tell.images(g, 1), "0 4 3 2 1 5 9 8 7 6");
        checks.due("r 1", Tell.images(g, 3), "1 0 4 3 2 6 5 9 8 7");
        checks.due("r 4", Tell.images(g, 9), "4 3 2 1 0 9 8 7 6 5");
        checks.due("the last of 16", Grids.rings(16, 1).image(31, 15), 0);
        checks.due("round the first of 16", Grids.rings(16, 1).image(1, 15), 1);
    }

    private static void turnsOfRingsInstead() {
        for (int w = 1; w <= 16; w++) {
            GridShapes g = Grids.rings(w, 4);
            checks.due("the last of " + w, g.image(2 * w - 1, 0), w - 1);
            checks.due("none behind it of " + w, g.image(2 * w, 0), -1);
        }
        GridShapes wideAsHigh = Grids.rings(3, 3);
        checks.due("4 puts no y to x", Tell.images(wideAsHigh, 4), "2 0 1 5 3 4 8 6 7");
        checks.due("2 puts no y elsewhere", Tell.images(wideAsHigh, 2), "1 2 0 4 5 3 7 8 6");
        checks.due("6", wideAsHigh.image(6, 0), -1);
    }

    private static void oneTurnOfGraphs() {
        checks.due("0", Tell.images(Grids.graph(4, 0, 1), 0), "0 1 2 3");
        for (int turn = 1; turn < 8; turn++) {
            checks.due("no " + turn, Grids.graph(4).image(turn, 0), -1);
            checks.due("keeps no " + turn, Grids.graph(4).keeps(turn), false);
            checks.due("no " + turn + " of one place", Grids.graph(1).image(turn, 0), -1);
        }
        checks.due("one keeps it", Grids.graph(1).keeping(), 1);
    }

    private static void keepsNeighbours() {
        checks.due("squares", Tell.keeping(Grids.squares(3, 3)), "0 1 2 3 4 5 6 7");
        checks.due("squares 2 x 3", Tell.keeping(Grids.squares(2, 3)), "0 1 2 3");
        checks.due("hexes 2 x 2", Tell.keeping(Grids.hexes(2, 2)), "0 3 4 7");
        checks.due("hexes 3 x 3", Tell.keeping(Grids.hexes(3, 3)), "0 2");
        checks.due("hexes 3 x 2", Tell.keeping(Grids.hexes(3, 2)), "0 3");
        checks.due("hexes 3 x 1", Tell.keeping(Grids.hexes(3, 1)), "0 1 2 3");
        checks.due("triangles 2 x 2", Tell.keeping(Grids.triangles(2, 2)), "0 2");
        checks.due("triangles 5 x 2", Tell.keeping(Grids.triangles(5, 2)), "0 1 2 3");
        checks.due("triangles 4 x 3", Tell.keeping(Grids.triangles(4, 3)), "0 3");
        checks.due("rings", Tell.keeping(Grids.rings(4, 3)), "0 1 2 3 4 5 6 7");
        checks.due("rings of two", Tell.keeping(Grids.rings(2, 3)), "0 1 2 3");
        checks.due("rings of one", Tell.keeping(Grids.rings(1, 3)), "0 1");
        checks.due("one place", Tell.keeping(Grids.triangles(1, 1)), "0 1 2 3 4 5 6 7");
        checks.due("a graph", Tell.keeping(Grids.graph(4, 0, 1)), "0");
    }

    private static void keepsWalls() {
        GridShapes s = Grids.squares(3, 3);
        s.wall(0, 1, true);
        checks.due("one wall", Tell.keeping(s), "0");
        s.wall(1, 2, true);
        checks.due("its image too", Tell.keeping(s), "0 1");
        checks.due("all walls", Tell.keeping(Grids.walledUp(s)), "0 1 2 3 4 5 6 7");
        s.wall(4, 5, false);
        checks.due("all but one", Tell.keeping(s), "0 2");
        GridShapes r = Grids.rings(4, 1);
        r.wall(3, 0, true);
        checks.due("a ring's wall between last and first", Tell.keeping(r), "0 7");
        r.wall(1, 2, true);
        checks.due("and the one across", Tell.keeping(r), "0 3 4 7");
        GridShapes two = Grids.rings(2, 1);
        two.wall(0, 1, true);
        checks.due("the one wall of a ring of two", Tell.keeping(two), "0 1 2 3");
    }

    private static void keepsMarks() {
        GridShapes s = Grids.squares(3, 1);
        s.mark(1, 99);
        checks.due("the middle one", Tell.keeping(s), "0 1 2 3");
        s.mark(0, 5);
        checks.due("the first one", Tell.keeping(s), "0 2");
        s.mark(2, 6);
        checks.due("another at the last", Tell.keeping(s), "0 2");
        s.mark(2, 5);
        checks.due("the same at the last", Tell.keeping(s), "0 1 2 3");
        GridShapes r = Grids.rings(4, 1);
        r.mark(3, 1);
        checks.due("the last one of a ring", Tell.keeping(r), "0 5");
        GridShapes a = Grids.squares(3, 1);
        a.area(0, 2);
        checks.due("areas are no marks", Tell.keeping(a), "0 1 2 3");
    }
}
