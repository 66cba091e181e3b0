/** Each promise of the document with answers worked out by hand. */
public final class PromisesTest {
    private static final Checks checks = new Checks();

    private PromisesTest() {
    }

    public static void main(String[] args) {
        promise1NewObject();
        promise2Join();
        promise3Places();
        promise4Degree();
        promise5Neighbour();
        promise6Wall();
        promise7Pairs();
        promise8Pair();
        promise9Seen();
        promise9SeenWithWalls();
        promise10Far();
        promise11Parts();
        promise12Without();
        promise13Area();
        promise14Size();
        promise15Mark();
        promise16Image();
        promise17Keeps();
        promise17KeepsWallsAndMarks();
        promise18Keeping();
        promise19Text();
        promise20Unit();
        promise21Read();
        checks.finish();
    }

    private static void promise1NewObject() {
        checks.due("1: least sides", Grids.squares(0, -7).places(), 1);
        checks.due("1: greatest sides", Grids.squares(17, 99).places(), 256);
        checks.due("1: width alone", Grids.rings(40, 2).places(), 32);
        checks.due("1: height alone", Grids.triangles(3, 40).places(), 48);
        checks.due("1: a graph's height", new GridShapes(Grids.GRAPHS, 7, 9).places(), 7);
        checks.due("1: a graph's width", new GridShapes(Grids.GRAPHS, 70, 9).places(), 16);
        checks.due("1: kind -1 is squares", Tell.neighbours(new GridShapes(-1, 3, 3), 4), "1 5 7 3");
        checks.due("1: kind 5 is a graph", new GridShapes(5, 3, 3).places(), 3);
        checks.due("1: kind 5 can be joined", new GridShapes(5, 3, 3).join(0, 2), true);
        GridShapes g = Grids.squares(3, 2);
        checks.due("1: no walls at first", g.pairs(true), 0);
        checks.due("1: marks 0 at first", Tell.text(g), "f");
        checks.due("1: areas 0 at first", g.size(0), 6);
        checks.due("1: a graph has no neighbours at first", Grids.graph(5).pairs(false), 0);
        checks.due("1: nothing to be read at first", g.read(), -1);
    }

    private static void promise2Join() {
        GridShapes g = Grids.graph(5);
        checks.due("2: join(3, 1)", g.join(3, 1), true);
        checks.due("2: join(3, 1) again", g.join(3, 1), false);
        checks.due("2: join(1, 3)", g.join(1, 3), false);
        checks.due("2: join(2, 2)", g.join(2, 2), false);
        checks.due("2: join(3, 0)", g.join(3, 0), true);
        checks.due("2: join(3, 4)", g.join(3, 4), true);
        checks.due("2: by their numbers", Tell.neighbours(g, 3), "0 1 4");
        checks.due("2: both sides", Tell.neighbours(g, 1), "3");
        checks.due("2: no neighbour of itself", Tell.neighbours(g, 2), "");
        checks.due("2: joined ones are next", g.degree(3, true), 3);
        g.wall(3, 1, true);
        checks.due("2: join keeps a wall", g.join(3, 1), false);
        checks.due("2: wall still stands", g.degree(3, true), 2);
        for (int kind = Grids.SQUARES; kind <= Grids.RINGS; kind++) {
            GridShapes other = new GridShapes(kind, 4, 4);
            int before = other.pairs(false);
            checks.due("2: no graph, kind " + kind, other.join(0, 10), false);
            checks.due("2: nothing done, kind " + kind, other.pairs(false), before);
            checks.noSuchPlace("2: no graph and no place", () -> other.join(0, 16));
        }
        checks.noSuchPlace("2: join(0, 5)", () -> g.join(0, 5));
        checks.noSuchPlace("2: join(5, 0)", () -> g.join(5, 0));
        checks.noSuchPlace("2: join(-1, -1)", () -> g.join(-1, -1));
    }

    private static void promise3Places() {
        checks.due("3: squares", Grids.squares(3, 2).places(), 6);
        checks.due("3: hexes", Grids.hexes(5, 4).places(), 20);
        checks.due("3: triangles", Grids.triangles(7, 1).places(), 7);
        checks.due("3: rings", Grids.rings(1, 16).places(), 16);
        checks.due("3: graphs", Grids.graph(1).places(), 1);
    }

    private static void promise4Degree() {
        GridShapes g = Grids.squares(3, 3);
        checks.due("4: corner", g.degree(0, false), 2);
        checks.due("4: side", g.degree(1, false), 3);
        checks.due("4: middle", g.degree(4, false), 4);
        g.wall(4, 1, true);
        g.wall(3, 4, true);
        checks.due("4: walls do not count", g.degree(4, false), 4);
        checks.due("4: with next they do", g.degree(4, true), 2);
        checks.due("4: from the other side", g.degree(1, true), 2);
        checks.due("4: elsewhere not", g.degree(8, true), 2);
        checks.due("4: hexes", Grids.hexes(3, 3).degree(5, false), 3);
        checks.due("4: triangles", Grids.triangles(4, 2).degree(2, true), 3);
        checks.due("4: rings", Grids.rings(4, 2).degree(7, false), 3);
        checks.due("4: graphs", Grids.graph(4, 0, 1, 0, 2, 3, 0).degree(0, true), 3);
        checks.due("4: alone", Grids.squares(1, 1).degree(0, false), 0);
        checks.noSuchPlace("4: degree(9, false)", () -> g.degree(9, false));
        checks.noSuchPlace("4: degree(-1, true)", () -> g.degree(-1, true));
    }

    private static void promise5Neighbour() {
        GridShapes s = Grids.squares(3, 2);
        checks.due("5: squares 0", Tell.neighbours(s, 0), "1 3");
        checks.due("5: squares 1", Tell.neighbours(s, 1), "2 4 0");
        checks.due("5: squares 5", Tell.neighbours(s, 5), "2 4");
        checks.due("5: squares middle", Tell.neighbours(Grids.squares(3, 3), 4), "1 5 7 3");
        GridShapes h = Grids.hexes(3, 3);
        checks.due("5: hexes 0", Tell.neighbours(h, 0), "1 3");
        checks.due("5: hexes 2", Tell.neighbours(h, 2), "5 4 1");
        checks.due("5: hexes 4", Tell.neighbours(h, 4), "2 5 8 7 3 1");
        checks.due("5: hexes 5", Tell.neighbours(h, 5), "8 4 2");
        checks.due("5: hexes 7", Tell.neighbours(h, 7), "4 8 6 3");
        checks.due("5: hexes even row", Tell.neighbours(Grids.hexes(3, 4), 7), "4 8 10 9 6 3");
        GridShapes t = Grids.triangles(4, 2);
        checks.due("5: triangles 0", Tell.neighbours(t, 0), "1 4");
        checks.due("5: triangles 1", Tell.neighbours(t, 1), "0 2");
        checks.due("5: triangles 2", Tell.neighbours(t, 2), "1 3 6");
        checks.due("5: triangles 3", Tell.neighbours(t, 3), "2");
        checks.due("5: triangles 6", Tell.neighbours(t, 6), "5 7 2");
        GridShapes r = Grids.rings(4, 2);
        checks.due("5: rings 0", Tell.neighbours(r, 0), "1 4 3");
        checks.due("5: rings 5", Tell.neighbours(r, 5), "1 6 4");
        checks.due("5: rings 7", Tell.neighbours(r, 7), "3 4 6");
        checks.due("5: rings middle", Tell.neighbours(Grids.rings(3, 3), 5), "2 3 8 4");
        checks.due("5: graph", Tell.neighbours(Grids.graph(16, 7, 15, 7, 0, 3, 7), 7), "0 3 15");
        s.wall(0, 1, true);
        checks.due("5: walls change nothing", Tell.neighbours(s, 0), "1 3");
        checks.due("5: k below 0", s.neighbour(0, -1), -1);
        checks.due("5: k least", s.neighbour(0, Integer.MIN_VALUE), -1);
        checks.due("5: k too great", s.neighbour(0, 2), -1);
        checks.due("5: k greatest", s.neighbour(0, Integer.MAX_VALUE), -1);
        checks.noSuchPlace("5: neighbour(6, 0)", () -> s.neighbour(6, 0));
        checks.noSuchPlace("5: neighbour(-1, -1)", () -> s.neighbour(-1, -1));
    }

    private static void promise6Wall() {
        GridShapes[] all = {Grids.squares(4, 2), Grids.hexes(4, 2), Grids.triangles(4, 2), Grids.rings(4, 2),
            Grids.graph(8, 0, 1, 1, 2)};
        for (int kind = 0; kind < all.length; kind++) {
            GridShapes g = all[kind];
            String of = "6: kind " + kind + " ";
            checks.due(of + "no wall to take", g.wall(0, 1, false), false);
            checks.due(of + "put", g.wall(0, 1, true), true);
            checks.due(of + "put again", g.wall(0, 1, true), false);
            checks.due(of + "put from there", g.wall(1, 0, true), false);
            checks.due(of + "one wall", g.pairs(true), 1);
            checks.due(of + "take from there", g.wall(1, 0, false), true);
            checks.due(of + "take again", g.wall(0, 1, false), false);
            checks.due(of + "no wall", g.pairs(true), 0);
            checks.due(of + "no neighbours", g.wall(0, 6, true), false);
            checks.due(of + "no neighbours, off", g.wall(0, 6, false), false);
            checks.due(of + "one place", g.wall(2, 2, true), false);
            checks.due(of + "still no wall", g.pairs(true), 0);
            checks.noSuchPlace(of + "wall(0, 8)", () -> g.wall(0, 8, true));
            checks.noSuchPlace(of + "wall(8, 0)", () -> g.wall(8, 0, false));
            checks.noSuchPlace(of + "wall(-1, 0)", () -> g.wall(-1, 0, true));
        }
        checks.due("6: round the ring", Grids.rings(4, 2).wall(3, 0, true), true);
        checks.due("6: ring of two", Grids.rings(2, 1).wall(1, 0, true), true);
        checks.due("6: row's end is not next row's begin", Grids.squares(4, 2).wall(3, 4, true), false);
    }

    private static void promise7Pairs() {
        GridShapes g = Grids.squares(3, 2);
        checks.due("7: squares", g.pairs(false), 7);
        checks.due("7: hexes", Grids.hexes(3, 3).pairs(false), 16);
        checks.due("7: triangles", Grids.triangles(4, 2).pairs(false), 8);
        checks.due("7: rings", Grids.rings(4, 2).pairs(false), 12);
        checks.due("7: rings of two", Grids.rings(2, 2).pairs(false), 4);
        checks.due("7: rings of one", Grids.rings(1, 3).pairs(false), 2);
        checks.due("7: graph", Grids.graph(4, 0, 1, 0, 2, 3, 0).pairs(false), 3);
        checks.due("7: alone", Grids.squares(1, 1).pairs(false), 0);
        g.wall(0, 1, true);
        g.wall(5, 4, true);
        checks.due("7: walled", g.pairs(true), 2);
        checks.due("7: all, with walls", g.pairs(false), 7);
    }

    private static void promise8Pair() {
        GridShapes g = Grids.squares(3, 2);
        checks.due("8: squares", Tell.pairs(g), "0-1 0-3 1-2 1-4 2-5 3-4 4-5");
        checks.due("8: hexes", Tell.pairs(Grids.hexes(3, 2)), "0-1 0-3 1-2 1-3 1-4 2-4 2-5 3-4 4-5");
        checks.due("8: triangles", Tell.pairs(Grids.triangles(4, 2)),
                "0-1 0-4 1-2 2-3 2-6 4-5 5-6 6-7");
        checks.due("8: rings", Tell.pairs(Grids.rings(4, 2)),
                "0-1 0-3 0-4 1-2 1-5 2-3 2-6 3-7 4-5 4-7 5-6 6-7");
        checks.due("8: rings of two", Tell.pairs(Grids.rings(2, 2)), "0-1 0-2 1-3 2-3");
        checks.due("8: graph", Tell.pairs(Grids.graph(5, 4, 2, 3, 0, 2, 0)), "0-2 0-3 2-4");
        checks.due("8: no pair", Tell.pairs(Grids.hexes(1, 1)), "");
        g.wall(0, 1, true);
        checks.due("8: walls change nothing", Tell.pairs(g), "0-1 0-3 1-2 1-4 2-5 3-4 4-5");
        checks.due("8: k -1", g.pair(-1, false), -1);
        checks.due("8: k least", g.pair(Integer.MIN_VALUE, true), -1);
        checks.due("8: k 7", g.pair(7, true), -1);
        checks.due("8: k greatest", g.pair(Integer.MAX_VALUE, false), -1);
    }

    private static void promise9Seen() {
        GridShapes s = Grids.squares(3, 3);
        checks.due("9: above", Tell.seen(s, 7, 0), "4 1");
        checks.due("9: right", Tell.seen(s, 3, 1), "4 5");
        checks.due("9: below", Tell.seen(s, 1, 2), "4 7");
        checks.due("9: left", Tell.seen(s, 5, 3), "4 3");
        checks.due("9: squares have no direction 4", s.seen(4, 4, 0), -1);
        GridShapes h = Grids.hexes(3, 4);
        checks.due("9: up right", Tell.seen(h, 9, 0), "7 4 2");
        checks.due("9: hex right", Tell.seen(h, 3, 1), "4 5");
        checks.due("9: down right", Tell.seen(h, 0, 2), "3 7 10");
        checks.due("9: down left", Tell.seen(h, 2, 3), "4 7 9");
        checks.due("9: hex left", Tell.seen(h, 5, 4), "4 3");
        checks.due("9: up left", Tell.seen(h, 10, 5), "7 3 0");
        checks.due("9: hexes have no direction 6", h.seen(4, 6, 0), -1);
        GridShapes t = Grids.triangles(4, 2);
        checks.due("9: triangles left", Tell.seen(t, 3, 0), "2 1 0");
        checks.due("9: triangles right", Tell.seen(t, 5, 1), "6 7");
        checks.due("9: triangles have no direction 2", t.seen(0, 2, 0), -1);
        GridShapes r = Grids.rings(4, 3);
        checks.due("9: inward", Tell.seen(r, 9, 0), "5 1");
        checks.due("9: onward", Tell.seen(r, 6, 1), "7 4 5");
        checks.due("9: outward", Tell.seen(r, 2, 2), "6 10");
        checks.due("9: backward", Tell.seen(r, 5, 3), "4 7 6");
        checks.due("9: rings have no direction 4", r.seen(0, 4, 0), -1);
        checks.due("9: ring of one", Tell.seen(Grids.rings(1, 2), 0, 1), "");
        GridShapes g = Grids.graph(3, 0, 1, 1, 2);
        for (int direction = -1; direction < 4; direction++) {
            checks.due("9: graphs have no direction", g.seen(0, direction, 0), -1);
        }
        checks.due("9: direction -1", s.seen(4, -1, 0), -1);
        checks.due("9: direction least", s.seen(4, Integer.MIN_VALUE, 0), -1);
        checks.due("9: direction greatest", s.seen(4, Integer.MAX_VALUE, 0), -1);
        checks.due("9: i -1", s.seen(4, 0, -1), -1);
        checks.due("9: i least", r.seen(4, 1, Integer.MIN_VALUE), -1);
        checks.due("9: i greatest", r.seen(4, 1, Integer.MAX_VALUE), -1);
        checks.noSuchPlace("9: seen(9, 0, 0)", () -> s.seen(9, 0, 0));
        checks.noSuchPlace("9: seen(-1, 9, 0)", () -> s.seen(-1, 9, 0));
        checks.noSuchPlace("9: graph seen(3, 0, 0)", () -> g.seen(3, 0, 0));
    }

    private static void promise9SeenWithWalls() {
        GridShapes s = Grids.squares(5, 1);
        s.wall(2, 3, true);
        checks.due("9: up to a wall", Tell.seen(s, 0, 1), "1 2");
        checks.due("9: at a wall", Tell.seen(s, 3, 3), "");
        checks.due("9: behind a wall", Tell.seen(s, 3, 1), "4");
        s.wall(3, 2, false);
        checks.due("9: wall taken", Tell.seen(s, 0, 1), "1 2 3 4");
        GridShapes r = Grids.rings(5, 1);
        r.wall(4, 0, true);
        checks.due("9: ring up to a wall", Tell.seen(r, 2, 1), "3 4");
        checks.due("9: ring backward up to a wall", Tell.seen(r, 2, 3), "1 0");
        r.wall(4, 0, false);
        r.wall(1, 2, true);
        checks.due("9: wall before the place itself", Tell.seen(r, 2, 1), "3 4 0 1");
        GridShapes t = Grids.triangles(4, 2);
        t.wall(0, 4, true);
        checks.due("9: a wall aside", Tell.seen(t, 0, 1), "1 2 3");
    }

    private static void promise10Far() {
        GridShapes s = Grids.squares(4, 3);
        checks.due("10: itself", s.far(5, 5), 0);
        checks.due("10: squares", s.far(0, 11), 5);
        s.wall(0, 1, true);
        checks.due("10: round a wall", s.far(0, 1), 3);
        s.wall(0, 4, true);
        checks.due("10: walled in", s.far(0, 1), -1);
        checks.due("10: walled in, from there", s.far(11, 0), -1);
        checks.due("10: itself, walled in", s.far(0, 0), 0);
        checks.due("10: hexes", Grids.hexes(3, 3).far(0, 8), 3);
        checks.due("10: triangles", Grids.triangles(5, 2).far(4, 5), 5);
        checks.due("10: rings", Grids.rings(7, 2).far(0, 12), 3);
        checks.due("10: graph", Grids.graph(5, 0, 1, 1, 2, 2, 3).far(3, 0), 3);
        checks.due("10: graph without a way", Grids.graph(5, 0, 1, 1, 2, 2, 3).far(4, 0), -1);
        checks.due("10: longest", Grids.squares(16, 16).far(0, 255), 30);
        checks.noSuchPlace("10: far(0, 12)", () -> s.far(0, 12));
        checks.noSuchPlace("10: far(12, 0)", () -> s.far(12, 0));
        checks.noSuchPlace("10: far(-1, -1)", () -> s.far(-1, -1));
    }

    private static void promise11Parts() {
        GridShapes s = Grids.squares(3, 3);
        checks.due("11: one", s.parts(-1), 1);
        checks.due("11: any below 0", s.parts(Integer.MIN_VALUE), 1);
        s.wall(0, 1, true);
        s.wall(0, 3, true);
        checks.due("11: walled", s.parts(-1), 2);
        s.area(0, 2);
        s.area(4, 2);
        s.area(5, 2);
        s.area(8, 2);
        checks.due("11: of an area", s.parts(2), 2);
        checks.due("11: of the others", s.parts(0), 2);
        s.area(1, 1);
        s.area(7, 1);
        checks.due("11: an area in two", s.parts(1), 2);
        checks.due("11: area without places", s.parts(3), 0);
        checks.due("11: no such area", s.parts(9), 0);
        checks.due("11: no such area at all", s.parts(Integer.MAX_VALUE), 0);
        checks.due("11: areas do not part all", s.parts(-1), 2);
        s.wall(4, 5, true);
        checks.due("11: a wall in an area", s.parts(2), 3);
        GridShapes line = Grids.squares(3, 1);
        line.area(1, 1);
        checks.due("11: area 0 is an area", line.parts(0), 2);
        checks.due("11: all of the line", line.parts(-1), 1);
        checks.due("11: graph", Grids.graph(6, 0, 1, 4, 2).parts(-1), 4);
        checks.due("11: graph's area", Grids.graph(6, 0, 1, 4, 2).parts(0), 4);
        checks.due("11: hexes", Grids.hexes(16, 16).parts(-1), 1);
        checks.due("11: triangles", Grids.triangles(1, 4).parts(-1), 2);
        checks.due("11: rings", Grids.rings(1, 4).parts(-1), 1);
    }

    private static void promise12Without() {
        GridShapes line = Grids.squares(5, 1);
        checks.due("12: in the middle", line.without(2), 2);
        checks.due("12: at the end", line.without(0), 1);
        line.wall(3, 4, true);
        checks.due("12: with a wall", line.without(2), 3);
        checks.due("12: alone behind a wall", line.without(4), 1);
        checks.due("12: nothing is left", Grids.squares(1, 1).without(0), 0);
        checks.due("12: star", Grids.graph(6, 2, 0, 2, 1, 2, 3, 2, 4).without(2), 5);
        checks.due("12: hexes", Grids.hexes(3, 3).without(4), 1);
        checks.due("12: triangles", Grids.triangles(4, 1).without(1), 2);
        checks.due("12: rings", Grids.rings(6, 1).without(3), 1);
        checks.due("12: nothing is gone", line.parts(-1), 2);
        line.area(0, 1);
        checks.due("12: areas do not part", line.without(4), 1);
        checks.noSuchPlace("12: without(5)", () -> line.without(5));
        checks.noSuchPlace("12: without(-1)", () -> line.without(-1));
    }

    private static void promise13Area() {
        GridShapes g = Grids.squares(3, 2);
        checks.due("13: area(4, 5)", g.area(4, 5), true);
        checks.due("13: is so", g.size(5), 1);
        checks.due("13: again", g.area(4, 5), true);
        checks.due("13: area(4, 6)", g.area(4, 6), false);
        checks.due("13: area(4, -1)", g.area(4, -1), false);
        checks.due("13: least", g.area(4, Integer.MIN_VALUE), false);
        checks.due("13: greatest", g.area(4, Integer.MAX_VALUE), false);
        checks.due("13: nothing changed", g.size(5), 1);
        checks.due("13: area(4, 0)", g.area(4, 0), true);
        checks.due("13: back", g.size(0), 6);
        checks.due("13: graph's last", Grids.graph(4).area(0, 3), true);
        checks.due("13: graph's too great", Grids.graph(4).area(0, 4), false);
        checks.noSuchPlace("13: area(6, 0)", () -> g.area(6, 0));
        checks.noSuchPlace("13: area(-1, 9)", () -> g.area(-1, 9));
    }

    private static void promise14Size() {
        GridShapes g = Grids.hexes(4, 4);
        checks.due("14: all", g.size(0), 16);
        g.area(3, 15);
        g.area(12, 15);
        g.area(0, 1);
        checks.due("14: two", g.size(15), 2);
        checks.due("14: one", g.size(1), 1);
        checks.due("14: the rest", g.size(0), 13);
        checks.due("14: none", g.size(2), 0);
        checks.due("14: no area", g.size(-1), 0);
        checks.due("14: no area either", g.size(16), 0);
    }

    private static void promise15Mark() {
        GridShapes g = Grids.triangles(3, 1);
        checks.due("15: mark(1, 99)", g.mark(1, 99), true);
        checks.due("15: is so", Tell.text(g), "a99a");
        checks.due("15: mark(1, 100)", g.mark(1, 100), false);
        checks.due("15: mark(1, -1)", g.mark(1, -1), false);
        checks.due("15: least", g.mark(1, Integer.MIN_VALUE), false);
        checks.due("15: greatest", g.mark(1, Integer.MAX_VALUE), false);
        checks.due("15: nothing changed", Tell.text(g), "a99a");
        checks.due("15: again", g.mark(1, 99), true);
        checks.due("15: mark(1, 0)", g.mark(1, 0), true);
        checks.due("15: gone", Tell.text(g), "c");
        checks.noSuchPlace("15: mark(3, 1)", () -> g.mark(3, 1));
        checks.noSuchPlace("15: mark(-1, 100)", () -> g.mark(-1, 100));
    }

    private static void promise16Image() {
        GridShapes g = Grids.squares(3, 2);
        checks.due("16: 0", Tell.images(g, 0), "0 1 2 3 4 5");
        checks.due("16: 1", Tell.images(g, 1), "2 1 0 5 4 3");
        checks.due("16: 2", Tell.images(g, 2), "3 4 5 0 1 2");
        checks.due("16: 3", Tell.images(g, 3), "5 4 3 2 1 0");
        checks.due("16: no 4 when W is not H", g.image(4, 0), -1);
        GridShapes[] wideAsHigh = {Grids.squares(3, 3), Grids.hexes(3, 3), Grids.triangles(3, 3)};
        for (GridShapes q : wideAsHigh) {
            checks.due("16: q 1", Tell.images(q, 1), "2 1 0 5 4 3 8 7 6");
            checks.due("16: q 4", Tell.images(q, 4), "0 3 6 1 4 7 2 5 8");
            checks.due("16: q 5", Tell.images(q, 5), "2 5 8 1 4 7 0 3 6");
            checks.due("16: q 6", Tell.images(q, 6), "6 3 0 7 4 1 8 5 2");
            checks.due("16: q 7", Tell.images(q, 7), "8 5 2 7 4 1 6 3 0");
            checks.due("16: q 8", q.image(8, 0), -1);
        }
        GridShapes r = Grids.rings(3, 2);
        checks.due("16: rings 0", Tell.images(r, 0), "0 1 2 3 4 5");
        checks.due("16: rings 1", Tell.images(r, 1), "0 2 1 3 5 4");
        checks.due("16: rings 2", Tell.images(r, 2), "1 2 0 4 5 3");
        checks.due("16: rings 3", Tell.images(r, 3), "1 0 2 4 3 5");
        checks.due("16: rings 4", Tell.images(r, 4), "2 0 1 5 3 4");
        checks.due("16: rings 5", Tell.images(r, 5), "2 1 0 5 4 3");
        checks.due("16: rings 6", r.image(6, 0), -1);
        checks.due("16: rings with W as H", Grids.rings(2, 2).image(4, 0), -1);
        checks.due("16: rings of one", Tell.images(Grids.rings(1, 2), 1), "0 1");
        checks.due("16: rings of one, 2", Grids.rings(1, 2).image(2, 0), -1);
        GridShapes n = Grids.graph(3);
        checks.due("16: graph 0", Tell.images(n, 0), "0 1 2");
        checks.due("16: graph 1", n.image(1, 0), -1);
        checks.due("16: graph of one", Grids.graph(1).image(4, 0), -1);
        checks.due("16: turn -1", g.image(-1, 0), -1);
        checks.due("16: least", r.image(Integer.MIN_VALUE, 0), -1);
        checks.due("16: greatest", r.image(Integer.MAX_VALUE, 0), -1);
        checks.noSuchPlace("16: image(0, 6)", () -> g.image(0, 6));
        checks.noSuchPlace("16: image(9, 6)", () -> g.image(9, 6));
        checks.noSuchPlace("16: image(-1, -1)", () -> g.image(-1, -1));
    }

    private static void promise17Keeps() {
        checks.due("17: squares", Tell.keeping(Grids.squares(3, 2)), "0 1 2 3");
        checks.due("17: squares, W as H", Tell.keeping(Grids.squares(3, 3)), "0 1 2 3 4 5 6 7");
        checks.due("17: hexes 3 x 3", Tell.keeping(Grids.hexes(3, 3)), "0 2");
        checks.due("17: hexes 3 x 2", Tell.keeping(Grids.hexes(3, 2)), "0 3");
        checks.due("17: hexes of one row", Tell.keeping(Grids.hexes(3, 1)), "0 1 2 3");
        checks.due("17: hexes of one", Tell.keeping(Grids.hexes(1, 1)), "0 1 2 3 4 5 6 7");
        checks.due("17: triangles 5 x 2", Tell.keeping(Grids.triangles(5, 2)), "0 1 2 3");
        checks.due("17: triangles 4 x 2", Tell.keeping(Grids.triangles(4, 2)), "0 2");
        checks.due("17: triangles 4 x 3", Tell.keeping(Grids.triangles(4, 3)), "0 3");
        checks.due("17: rings", Tell.keeping(Grids.rings(4, 2)), "0 1 2 3 4 5 6 7");
        checks.due("17: rings of one", Tell.keeping(Grids.rings(1, 2)), "0 1");
        checks.due("17: graph", Tell.keeping(Grids.graph(3, 0, 1, 1, 2)), "0");
        checks.due("17: greatest", Grids.squares(3, 3).keeps(Integer.MAX_VALUE), false);
        checks.due("17: least", Grids.squares(3, 3).keeps(Integer.MIN_VALUE), false);
    }

    private static void promise17KeepsWallsAndMarks() {
        GridShapes w = Grids.squares(3, 3);
        w.wall(0, 1, true);
        checks.due("17: wall", Tell.keeping(w), "0");
        w.wall(2, 1, true);
        checks.due("17: two walls", Tell.keeping(w), "0 1");
        w.wall(6, 7, true);
        w.wall(7, 8, true);
        checks.due("17: four walls", Tell.keeping(w), "0 1 2 3");
        GridShapes m = Grids.squares(3, 3);
        m.mark(0, 7);
        checks.due("17: mark", Tell.keeping(m), "0 4");
        m.mark(8, 7);
        checks.due("17: two marks", Tell.keeping(m), "0 3 4 7");
        m.mark(8, 8);
        checks.due("17: other marks", Tell.keeping(m), "0 4");
        GridShapes r = Grids.rings(4, 1);
        r.mark(1, 3);
        checks.due("17: ring's mark", Tell.keeping(r), "0 5");
        r.mark(3, 3);
        checks.due("17: ring's marks", Tell.keeping(r), "0 1 4 5");
        r.wall(0, 1, true);
        checks.due("17: ring's wall", Tell.keeping(r), "0");
        GridShapes a = Grids.squares(3, 3);
        a.area(0, 5);
        checks.due("17: areas do not count", Tell.keeping(a), "0 1 2 3 4 5 6 7");
    }

    private static void promise18Keeping() {
        GridShapes g = Grids.squares(4, 4);
        checks.due("18: squares", g.keeping(), 8);
        g.mark(0, 1);
        checks.due("18: squares with a mark", g.keeping(), 2);
        checks.due("18: squares 4 x 2", Grids.squares(4, 2).keeping(), 4);
        checks.due("18: hexes", Grids.hexes(3, 3).keeping(), 2);
        checks.due("18: triangles", Grids.triangles(4, 3).keeping(), 2);
        checks.due("18: rings", Grids.rings(16, 16).keeping(), 32);
        checks.due("18: rings of one", Grids.rings(1, 3).keeping(), 2);
        checks.due("18: rings of two", Grids.rings(2, 2).keeping(), 4);
        checks.due("18: graph", Grids.graph(4, 0, 1).keeping(), 1);
    }

    private static void promise19Text() {
        GridShapes g = Grids.squares(16, 4);
        checks.due("19: 64 places", Tell.text(g), "zzl");
        g.mark(52, 5);
        checks.due("19: 52 places and 11", Tell.text(g), "zz5k");
        g.mark(52, 0);
        g.mark(25, 10);
        checks.due("19: 25 places", Tell.text(g), "y10zl");
        g.mark(25, 0);
        g.mark(26, 1);
        checks.due("19: 26 places", Tell.text(g), "z1zk");
        g.mark(0, 9);
        g.mark(1, 90);
        g.mark(63, 9);
        checks.due("19: at both ends", Tell.text(g), "9 90x1zj9");
        checks.due("19: -1", g.text(-1), -1);
        checks.due("19: least", g.text(Integer.MIN_VALUE), -1);
        checks.due("19: behind", g.text(9), -1);
        checks.due("19: greatest", g.text(Integer.MAX_VALUE), -1);
        GridShapes all = Grids.rings(16, 16);
        for (int place = 0; place < 256; place++) {
            all.mark(place, 42);
        }
        checks.due("19: first of the longest", all.text(0), '4');
        checks.due("19: a blank of the longest", all.text(764), ' ');
        checks.due("19: last of the longest", all.text(766), '2');
        checks.due("19: behind the longest", all.text(767), -1);
        checks.due("19: one place", Tell.text(Grids.graph(1)), "a");
    }

    private static void promise20Unit() {
        GridShapes g = Grids.graph(3);
        checks.due("20: 0", g.unit(0), true);
        checks.due("20: it came", g.read(), -1);
        checks.due("20: 255", g.unit(255), true);
        checks.due("20: -1", g.unit(-1), false);
        checks.due("20: 256", g.unit(256), false);
        checks.due("20: least", g.unit(Integer.MIN_VALUE), false);
        checks.due("20: greatest", g.unit(Integer.MAX_VALUE), false);
        checks.due("20: refused ones did not come", g.read(), -1);
        g.unit('c');
        g.unit(353);
        checks.due("20: refused ones do not stand behind", g.read(), 3);
    }

    private static void promise21Read() {
        GridShapes g = Grids.squares(4, 2);
        checks.due("21: numbers", Tell.read(g, "1 22 3 44 5 66 7 88"), 8);
        checks.due("21: are marks", Tell.text(g), "1 22 3 44 5 66 7 88");
        checks.due("21: letters", Tell.read(g, "h"), 8);
        checks.due("21: took marks away", Tell.text(g), "h");
        checks.due("21: letters one by one", Tell.read(g, "aaba99b"), 8);
        checks.due("21: text has them together", Tell.text(g), "e99b");
        checks.due("21: number first", Tell.read(g, "10f90"), 8);
        checks.due("21: and last", Tell.text(g), "10f90");
        checks.due("21: it is gone", g.read(), -1);
        checks.due("21: gone is gone", g.read(), -1);
        GridShapes t = Grids.triangles(13, 4);
        checks.due("21: z", Tell.read(t, "zz"), 52);
        checks.due("21: z between", Tell.read(t, "9z1x"), 52);
        checks.due("21: z and text", Tell.text(t), "9z1x");
        checks.due("21: graph", Tell.read(Grids.graph(4), "5b5"), 4);
        checks.due("21: rings", Tell.read(Grids.rings(1, 1), "7"), 1);
        checks.due("21: hexes", Tell.read(Grids.hexes(2, 2), "10 20 30 40"), 4);
    }
}
