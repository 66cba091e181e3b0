import java.util.Random;

/** Runs of drawn calls, always the same ones, answered by the class and by the model. */
public final class ModelTest {
    private static final int RUNS = 1500;
    private static final int CALLS = 512;
    // Eight calls each: one object answers for so many places before its 512 calls are used up.
    private static final int PLACES_LOOKED_AT = 64;
    private static final int THROWN = Integer.MIN_VALUE + 77;
    private static final String BYTES = "0123456789 abcdez";

    private static final Checks checks = new Checks();

    private ModelTest() {
    }

    public static void main(String[] args) {
        for (int run = 0; run < RUNS; run++) {
            run(run, new Random(run));
        }
        for (int kind = 0; kind <= 4; kind++) {
            for (int w = 1; w <= 16; w++) {
                for (int h = 1; h <= 16; h++) {
                    look(kind, w, h);
                }
            }
        }
        checks.finish();
    }

    private static int side(Random r) {
        int way = r.nextInt(10);
        return way < 7 ? 1 + r.nextInt(6) : way < 9 ? 1 + r.nextInt(16) : r.nextInt(40) - 10;
    }

    private static int number(Random r, int bound) {
        switch (r.nextInt(60)) {
            case 0:
                return -1 - r.nextInt(3);
            case 1:
                return bound + r.nextInt(3);
            case 2:
                return r.nextBoolean() ? Integer.MIN_VALUE : Integer.MAX_VALUE;
            default:
                return r.nextInt(bound);
        }
    }

    private static void run(int run, Random r) {
        int kind = r.nextInt(20) == 0 ? r.nextInt(20) - 10 : r.nextInt(5);
        int w = side(r);
        int h = side(r);
        GridShapes g = new GridShapes(kind, w, h);
        GridModel m = new GridModel(kind, w, h);
        boolean plain = r.nextBoolean();
        int made = 0;
        while (made < CALLS) {
            if (r.nextInt(12) == 0) {
                made += readSomething(run, g, m, r, CALLS - made);
            } else {
                call(run, g, m, r, plain);
                made++;
            }
        }
    }

    /** Bytes that mostly make a text, then read(). */
    private static int readSomething(int run, GridShapes g, GridModel m, Random r, int room) {
        StringBuilder s = new StringBuilder();
        if (r.nextBoolean()) {
            int left = m.n;
            while (left > 0) {
                if (r.nextInt(3) > 0) {
                    boolean digit = s.length() > 0 && s.charAt(s.length() - 1) <= '9';
                    s.append(digit ? " " : "").append(1 + r.nextInt(99));
                    left--;
                } else {
                    int many = Math.min(left, 1 + r.nextInt(26));
                    s.append((char) ('a' + many - 1));
                    left -= many;
                }
            }
            if (r.nextInt(3) == 0) {
                int at = r.nextInt(s.length() + 1);
                s.insert(at, BYTES.charAt(r.nextInt(BYTES.length())));
            }
        } else {
            int length = r.nextInt(8);
            for (int i = 0; i < length; i++) {
                s.append(BYTES.charAt(r.nextInt(BYTES.length())));
            }
        }
        if (s.length() + 1 > room) {
            return room;
        }
        for (int i = 0; i < s.length(); i++) {
            checks.due(run + ": unit " + s.charAt(i), g.unit(s.charAt(i)), m.unit(s.charAt(i)));
        }
        checks.due(run + ": read '" + s + "'", g.read(), m.read());
        return s.length() + 1;
    }

    private static void call(int run, GridShapes g, GridModel m, Random r, boolean plain) {
        int what = r.nextInt(22);
        int a = number(r, m.n);
        int b = number(r, m.n);
        if (r.nextInt(3) > 0 && a >= 0 && a < m.n && !m.neighbours(a).isEmpty()) {
            b = m.neighbours(a).get(r.nextInt(m.neighbours(a).size()));
        }
        int k = number(r, 7);
        int v = number(r, plain ? 3 : 100);
        int turn = number(r, 34);
        boolean flag = r.nextInt(4) > 0;
        String row = run + " (" + m.kind + ", " + m.w + ", " + m.h + "): call " + what + " of " + a
                + ", " + b + ", " + k + ", " + v + ", " + turn + ", " + flag;
        boolean onePlace = what == 4 || what == 5 || what == 9 || what == 12 || what == 13
                || what == 15 || what == 16;
        boolean twoPlaces = what == 2 || what == 6 || what == 10;
        boolean bad = (onePlace || twoPlaces) && (a < 0 || a >= m.n)
                || twoPlaces && (b < 0 || b >= m.n);
        int[] of = {what, a, b, k, v, turn};
        int want = bad ? THROWN : ofModel(m, of, flag);
        int got;
        try {
            got = ofClass(g, of, flag);
        } catch (ArrayIndexOutOfBoundsException e) {
            got = "no such place".equals(e.getMessage()) ? THROWN : THROWN + 1;
        }
        checks.due(row, got, want);
    }

    private static int ofClass(GridShapes g, int[] of, boolean flag) {
        int a = of[1];
        int b = of[2];
        switch (of[0]) {
            case 2: return g.join(a, b) ? 1 : 0;
            case 3: return g.places();
            case 4: return g.degree(a, flag);
            case 5: return g.neighbour(a, of[3]);
            case 6: return g.wall(a, b, flag) ? 1 : 0;
            case 7: return g.pairs(flag);
            case 8: return g.pair(2 * a + of[3], flag);
            case 9: return g.seen(a, of[3], of[4]);
            case 10: return g.far(a, b);
            case 11: return g.parts(of[3] - 1);
            case 12: return g.without(a);
            case 13: return g.area(a, of[3]) ? 1 : 0;
            case 14: return g.size(of[3]);
            case 15: return g.mark(a, of[4]) ? 1 : 0;
            case 16: return g.image(of[5], a);
            case 17: return g.keeps(of[5]) ? 1 : 0;
            case 18: return g.keeping();
            case 19: return g.text(of[4]);
            case 20: return g.unit(of[4]) ? 1 : 0;
            case 21: return g.read();
            default: return 0;
        }
    }

    private static int ofModel(GridModel m, int[] of, boolean flag) {
        int a = of[1];
        int b = of[2];
        switch (of[0]) {
            case 2: return m.join(a, b) ? 1 : 0;
            case 3: return m.n;
            case 4: return m.degree(a, flag);
            case 5: return m.neighbour(a, of[3]);
            case 6: return m.wall(a, b, flag) ? 1 : 0;
            case 7: return m.pairs(flag);
            case 8: return m.pair(2 * a + of[3], flag);
            case 9: return m.seen(a, of[3], of[4]);
            case 10: return m.far(a, b);
            case 11: return m.parts(of[3] - 1);
            case 12: return m.without(a);
            case 13: return m.area(a, of[3]) ? 1 : 0;
            case 14: return m.size(of[3]);
            case 15: return m.mark(a, of[4]) ? 1 : 0;
            case 16: return m.image(of[5], a);
            case 17: return m.keeps(of[5]) ? 1 : 0;
            case 18: return m.keeping();
            case 19: return m.text(of[4]);
            case 20: return m.unit(of[4]) ? 1 : 0;
            case 21: return m.read();
            default: return 0;
        }
    }

    /** Every size of every kind, as it is at first. */
    private static void look(int kind, int w, int h) {
        GridShapes g = new GridShapes(kind, w, h);
        GridModel m = new GridModel(kind, w, h);
        String of = "(" + kind + ", " + w + ", " + h + ") ";
        checks.due(of + "places", g.places(), m.n);
        checks.due(of + "pairs", g.pairs(false), m.pairs(false));
        checks.due(of + "keeping", g.keeping(), m.keeping());
        checks.due(of + "parts", g.parts(-1), m.parts(-1));
        checks.due(of + "text", Tell.text(g), m.wholeText());
        for (int first = 0; first < m.n; first += PLACES_LOOKED_AT) {
            lookBeside(of, new GridShapes(kind, w, h), m, first);
        }
    }

    private static void lookBeside(String of, GridShapes g, GridModel m, int first) {
        for (int p = first; p < m.n && p < first + PLACES_LOOKED_AT; p++) {
            checks.due(of + "degree of " + p, g.degree(p, true), m.degree(p, true));
            for (int k = 0; k < 7; k++) {
                checks.due(of + "neighbour of " + p, g.neighbour(p, k), m.neighbour(p, k));
            }
        }
    }
}
