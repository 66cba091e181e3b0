/** Each sentence of promises 19 to 21 that names a boundary case, in a test of its own. */
public final class TextBoundariesTest {
    private static final int LEAST = Integer.MIN_VALUE;
    private static final int GREATEST = Integer.MAX_VALUE;

    private static final Checks checks = new Checks();

    private TextBoundariesTest() {
    }

    public static void main(String[] args) {
        text();
        unit();
        read();
        faults();
        afterFaults();
        checks.finish();
    }

    private static void text() {
        checks.sentence("19: a mark above 0 in decimal", TextBoundariesTest::decimal);
        checks.sentence("19: a blank (byte 32) between two of them that follow each other",
                TextBoundariesTest::blanks);
        checks.sentence("19: z for 26 of them, as long as there are 26 or more",
                TextBoundariesTest::manyZeros);
        checks.sentence("19: then a for 1, b for 2 and so on", TextBoundariesTest::fewZeros);
        checks.sentence("19: n places in a row (over the ends of rows too)",
                TextBoundariesTest::zerosOverRows);
        checks.sentence("19: -1 when there is none", TextBoundariesTest::noSuchByte);
    }

    private static void unit() {
        checks.sentence("20: A byte comes behind what is to be read: true",
                TextBoundariesTest::bytesInOrder);
        checks.sentence("20: false when it is not 0 .. 255", TextBoundariesTest::noByte);
        checks.sentence("20: true (as many bytes as 512 calls have room for)",
                TextBoundariesTest::allBytesOfOneObject);
        checks.sentence("20: false when .. there are 1,200", TextBoundariesTest::fullOfBytes);
    }

    private static void read() {
        checks.sentence("21: how many places, all of which have the marks that it says",
                TextBoundariesTest::allPlacesRead);
        checks.sentence("21: What came is read (and is gone)", TextBoundariesTest::goneWhenRead);
        checks.sentence("21: (Letters need not be as text() has them.)",
                TextBoundariesTest::lettersInAnyWay);
        checks.sentence("21: all marks (the greatest and the most)", TextBoundariesTest::mostRead);
    }

    private static void faults() {
        checks.sentence("21: -1 less the place of the first byte that can't be there",
                TextBoundariesTest::firstOfManyFaults);
        checks.sentence("21: no digit, letter a to z or blank", TextBoundariesTest::noSign);
        checks.sentence("21: a blank that does not stand between two digits",
                TextBoundariesTest::blankElsewhere);
        checks.sentence("21: a third digit of a number", TextBoundariesTest::thirdDigit);
        checks.sentence("21: a 0 with which a number begins", TextBoundariesTest::beginningZero);
        checks.sentence("21: a digit that begins a number too many",
                TextBoundariesTest::numberTooMany);
        checks.sentence("21: a letter for more places than are left",
                TextBoundariesTest::letterTooGreat);
        checks.sentence("21: the end, when places are left", TextBoundariesTest::endTooEarly);
    }

    private static void afterFaults() {
        checks.sentence("21: Then no mark is changed", TextBoundariesTest::marksAfterFaults);
        checks.sentence("21: (and is gone), after a fault too", TextBoundariesTest::goneAfterFaults);
        checks.sentence("21: (walls, neighbours and areas are no marks)",
                TextBoundariesTest::onlyMarksAreRead);
    }

    /** The text, read on four places, is refused for its byte at that place. */
    private static void refused(String text, int place) {
        for (GridShapes g : Grids.eachKind(2, 2)) {
            checks.due("'" + text + "'", Tell.read(g, text), -1 - place);
        }
    }

    /** The text, read on four places, is taken, and the marks' own text is then the other one. */
    private static void taken(String text, String after) {
        for (GridShapes g : Grids.eachKind(2, 2)) {
            g.mark(0, 77);
            g.mark(3, 88);
            checks.due("'" + text + "'", Tell.read(g, text), 4);
            checks.due("text after '" + text + "'", Tell.text(g), after);
        }
    }

    private static String repeated(String what, int times) {
        StringBuilder s = new StringBuilder();
        for (int i = 0; i < times; i++) {
            s.append(what);
        }
        return s.toString();
    }

    private static void decimal() {
        GridShapes g = Grids.graph(1);
        for (int v = 1; v <= 99; v++) {
            g.mark(0, v);
            checks.due("mark " + v, Tell.text(g), String.valueOf(v));
        }
    }

    private static void blanks() {
        GridShapes g = Grids.squares(3, 2);
        int[] all = {1, 22, 3, 44, 5, 66};
        for (int place = 0; place < 6; place++) {
            g.mark(place, all[place]);
        }
        checks.due("between all, none at the ends", Tell.text(g), "1 22 3 44 5 66");
        g.mark(1, 0);
        checks.due("none beside a letter", Tell.text(g), "1a3 44 5 66");
        g.mark(0, 0);
        checks.due("none behind a letter", Tell.text(g), "b3 44 5 66");
        g.mark(5, 0);
        checks.due("none before a letter", Tell.text(g), "b3 44 5a");
        g.mark(4, 0);
        checks.due("between the two", Tell.text(g), "b3 44b");
        checks.due("is byte 32", g.text(2), 32);
    }

    private static void manyZeros() {
        int[] widths = {5, 13, 9, 13, 16};
        int[] heights = {5, 2, 3, 4, 16};
        String[] texts = {"y", "z", "za", "zz", "zzzzzzzzzv"};
        for (int i = 0; i < texts.length; i++) {
            GridShapes g = Grids.hexes(widths[i], heights[i]);
            checks.due(g.places() + " places", Tell.text(g), texts[i]);
        }
        GridShapes g = Grids.squares(16, 4);
        g.mark(25, 1);
        checks.due("25 before and 38 behind", Tell.text(g), "y1zl");
        g.mark(25, 0);
        g.mark(26, 1);
        checks.due("26 before and 37 behind", Tell.text(g), "z1zk");
        g.mark(26, 0);
        g.mark(27, 1);
        checks.due("27 before and 36 behind", Tell.text(g), "za1zj");
        g.mark(27, 0);
        g.mark(52, 1);
        checks.due("52 before and 11 behind", Tell.text(g), "zz1k");
    }

    private static void fewZeros() {
        GridShapes g = Grids.squares(13, 2);
        for (int zeros = 1; zeros <= 25; zeros++) {
            g.mark(zeros, 9);
            checks.due(zeros + " places", g.text(0), 'a' + zeros - 1);
            checks.due("then the mark", g.text(1), '9');
            g.mark(zeros, 0);
        }
        checks.due("26 places", Tell.text(g), "z");
        for (GridShapes one : Grids.eachKind(1, 1)) {
            checks.due("one place", Tell.text(one), "a");
        }
    }

    private static void zerosOverRows() {
        for (GridShapes g : Grids.eachKind(3, 3)) {
            g.mark(1, 5);
            g.mark(8, 6);
            checks.due("three rows", Tell.text(g), "a5f6");
        }
    }

    private static void noSuchByte() {
        for (GridShapes g : Grids.eachKind(3, 2)) {
            g.mark(5, 10);
            checks.due("last", g.text(2), '0');
            checks.due("behind the last", g.text(3), -1);
            checks.due("-1", g.text(-1), -1);
            checks.due("least", g.text(LEAST), -1);
            checks.due("greatest", g.text(GREATEST), -1);
            g.mark(5, 0);
            checks.due("no longer there", g.text(1), -1);
        }
        GridShapes all = Grids.squares(16, 16);
        for (int place = 0; place < 256; place++) {
            all.mark(place, 42);
        }
        checks.due("first of the longest", all.text(0), '4');
        checks.due("blank of the longest", all.text(764), ' ');
        checks.due("last of the longest", all.text(766), '2');
        checks.due("behind the longest", all.text(767), -1);
    }

    private static void bytesInOrder() {
        GridShapes g = Grids.graph(3);
        checks.due("least", g.unit(0), true);
        checks.due("it came", g.read(), -1);
        checks.due("greatest", g.unit(255), true);
        checks.due("that came too", g.read(), -1);
        checks.due("1", g.unit('1'), true);
        checks.due("2", g.unit('2'), true);
        checks.due("b", g.unit('b'), true);
        checks.due("read", g.read(), 3);
        checks.due("in that order", Tell.text(g), "12b");
    }

    private static void noByte() {
        GridShapes g = Grids.graph(3);
        int[] wrong = {-1, 256, 257, '1' + 256, 'c' - 256, LEAST, GREATEST};
        for (int u : wrong) {
            checks.due("unit " + u, g.unit(u), false);
        }
        g.unit('1');
        for (int u : wrong) {
            checks.due("unit " + u + " behind a byte", g.unit(u), false);
        }
        g.unit('b');
        checks.due("none of them came", g.read(), 3);
        checks.due("but the two others", Tell.text(g), "1b");
    }

    private static void allBytesOfOneObject() {
        GridShapes g = Grids.graph(3);
        for (int i = 0; i < 511; i++) {
            checks.due("byte " + i, g.unit(i < 3 ? 'a' : '!'), true);
        }
        checks.due("the 512th call", g.read(), -4);
    }

    // Only a run beyond the 512 calls gets there, where the document leaves all answers free; that
    // the class keeps to the promise's number there too is its own choice.
    private static void fullOfBytes() {
        GridShapes g = Grids.graph(3);
        g.unit('1');
        g.unit('b');
        for (int i = 2; i < 1199; i++) {
            g.unit('!');
        }
        checks.due("byte 1,200", g.unit('c'), true);
        checks.due("byte 1,201", g.unit('c'), false);
        checks.due("again", g.unit('c'), false);
        checks.due("no byte at all", g.unit(256), false);
        checks.due("the first ones are still there", g.read(), -3);
        checks.due("room again", g.unit('c'), true);
        checks.due("read again", g.read(), 3);
    }

    private static void allPlacesRead() {
        taken("1 22 3 44", "1 22 3 44");
        taken("d", "d");
        taken("9c", "9c");
        taken("c99", "c99");
        taken("10b90", "10b90");
        for (GridShapes g : Grids.eachKind(1, 1)) {
            checks.due("the one place", Tell.read(g, "7"), 1);
            checks.due("has it", Tell.text(g), "7");
            checks.due("the one place without", Tell.read(g, "a"), 1);
            checks.due("has none", Tell.text(g), "a");
        }
    }

    private static void goneWhenRead() {
        for (GridShapes g : Grids.eachKind(2, 2)) {
            checks.due("nothing at first", g.read(), -1);
            checks.due("a text", Tell.read(g, "1c"), 4);
            checks.due("nothing is left of it", g.read(), -1);
            checks.due("marks stay", Tell.text(g), "1c");
            checks.due("another text", Tell.read(g, "d"), 4);
            checks.due("has its marks alone", Tell.text(g), "d");
        }
    }

    private static void lettersInAnyWay() {
        taken("aaaa", "d");
        taken("ba5", "c5");
        taken("5aaa", "5c");
        taken("aab", "d");
        GridShapes g = Grids.squares(9, 3);
        checks.due("27 places", Tell.read(g, "az"), 27);
        checks.due("27 places' text", Tell.text(g), "za");
        checks.due("26 and one", Tell.read(g, "ya1"), 27);
        checks.due("26 and one's text", Tell.text(g), "z1");
    }

    private static void mostRead() {
        GridShapes zeros = Grids.squares(16, 16);
        checks.due("256 zeros", Tell.read(zeros, "zzzzzzzzzv"), 256);
        checks.due("one too many", Tell.read(zeros, "zzzzzzzzzw"), -10);
        checks.due("one too few", Tell.read(zeros, "zzzzzzzzzu"), -11);
        String numbers = "7" + repeated(" 7", 255);
        checks.due("256 numbers, the 512th call", Tell.read(Grids.rings(16, 16), numbers), 256);
        GridShapes halves = Grids.hexes(16, 16);
        checks.due("128 of two digits", Tell.read(halves, repeated("99a", 128)), 256);
        checks.due("their last", halves.text(383), 'a');
        checks.due("behind it", halves.text(384), -1);
    }

    private static void firstOfManyFaults() {
        refused("!!", 0);
        refused("a!0", 1);
        refused("1 2!z", 3);
        refused("000", 0);
        refused("a123z", 3);
        refused("b  ", 1);
        refused("1 2 3 4 5 6", 8);
    }

    /** Every byte alone on 26 places: z is a text, a to y and digits end too early. */
    private static void noSign() {
        for (int u = 0; u <= 255; u++) {
            GridShapes g = Grids.squares(13, 2);
            g.unit(u);
            boolean begins = u >= '1' && u <= '9' || u >= 'a' && u < 'z';
            checks.due("byte " + u, g.read(), u == 'z' ? 26 : begins ? -2 : -1);
            g.unit('1');
            g.unit(u);
            g.unit('y');
            boolean digit = u >= '0' && u <= '9';
            boolean letter = u >= 'a' && u <= 'z';
            int due = digit ? 26 : !letter || u == 'z' ? -2 : -3;
            checks.due("byte " + u + " between 1 and y", g.read(), due);
        }
        refused("d!", 1);
        refused("1 2 3 4\n", 7);
        refused("D", 0);
    }

    private static void blankElsewhere() {
        refused(" ", 0);
        refused(" 1c", 0);
        refused(" d", 0);
        refused("a 1", 1);
        refused("a b", 1);
        refused("1 c", 1);
        refused("1  2b", 1);
        refused("1 ", 1);
        refused("1 2 3 4 ", 7);
        refused("d ", 1);
        refused("12 ", 2);
        refused("1 !", 1);
        refused("10  1b", 2);
        // Between two digits it may stand, even when the second of them can't.
        refused("c1 0", 3);
        refused("c1 1", 3);
        taken("1 2b", "1 2b");
        taken("b10 10", "b10 10");
    }

    private static void thirdDigit() {
        refused("123", 2);
        refused("100", 2);
        refused("999c", 2);
        refused("1 100a", 4);
        refused("c123", 3);
        refused("1 2 3 456", 8);
        refused("1234", 2);
        taken("99c", "99c");
        taken("12 34b", "12 34b");
    }

    private static void beginningZero() {
        refused("0", 0);
        refused("0c", 0);
        refused("00", 0);
        refused("01c", 0);
        refused("a0b", 1);
        refused("1 0b", 2);
        refused("1 05b", 2);
        refused("d0", 1);
        refused("1 2 3 4 0", 8);
        taken("10c", "10c");
        taken("a90b", "a90b");
    }

    private static void numberTooMany() {
        refused("d1", 1);
        refused("1 2 3 4 5", 8);
        refused("c10 1", 4);
        refused("aaaa9", 4);
        refused("1c1", 2);
        taken("c1", "c1");
        taken("c19", "c19");
    }

    private static void letterTooGreat() {
        refused("e", 0);
        refused("z", 0);
        refused("da", 1);
        refused("cb", 1);
        refused("1d", 1);
        refused("1 2 3 4a", 7);
        refused("aaaaa", 4);
        refused("b10b", 3);
        taken("ca", "d");
        taken("1 2b", "1 2b");
        checks.due("z for 25", Tell.read(Grids.squares(5, 5), "z"), -1);
        checks.due("y for 25", Tell.read(Grids.squares(5, 5), "y"), 25);
        checks.due("b for one", Tell.read(Grids.graph(1), "b"), -1);
    }

    private static void endTooEarly() {
        refused("", 0);
        refused("c", 1);
        refused("aaa", 3);
        refused("1", 1);
        refused("12", 2);
        refused("1 2 3", 5);
        refused("b10", 3);
        taken("b10a", "b10a");
        checks.due("25 of 26", Tell.read(Grids.squares(13, 2), "y"), -2);
    }

    private static void marksAfterFaults() {
        String[] texts = {"", "!", "9 8 7 6!", "9 ", "9 8 7", "999", "0", "9 8 7 6 5", "9 8 7 6a",
            "e", "c", "9 8c", "9 8 7 06", "da", "9a9 9 "};
        for (String text : texts) {
            for (GridShapes g : Grids.eachKind(2, 2)) {
                g.mark(0, 31);
                g.mark(1, 4);
                g.mark(3, 99);
                checks.due("'" + text + "' is refused", Tell.read(g, text) < 0, true);
                checks.due("marks after '" + text + "'", Tell.text(g), "31 4a99");
                checks.due("places after '" + text + "'", g.places(), 4);
            }
        }
    }

    private static void goneAfterFaults() {
        for (GridShapes g : Grids.eachKind(2, 2)) {
            checks.due("a fault at the end", Tell.read(g, "1 2"), -4);
            checks.due("nothing is left of it", Tell.read(g, ""), -1);
            checks.due("a fault at the first", Tell.read(g, "!d"), -1);
            checks.due("what stood behind it is gone", Tell.read(g, "5c"), 4);
            checks.due("has its marks alone", Tell.text(g), "5c");
            checks.due("two digits and a fault", Tell.read(g, "12!"), -3);
            checks.due("its digits are gone", Tell.read(g, "3c"), 4);
            checks.due("has these marks", Tell.text(g), "3c");
        }
    }

    private static void onlyMarksAreRead() {
        for (GridShapes g : Grids.eachKind(2, 2)) {
            g.wall(0, 1, true);
            g.area(2, 3);
            String before = Tell.all(g);
            checks.due("a text", Tell.read(g, "5b6"), 4);
            checks.due("a text of no marks", Tell.read(g, "d"), 4);
            checks.due("all else is as it was", Tell.all(g), before);
        }
    }
}
