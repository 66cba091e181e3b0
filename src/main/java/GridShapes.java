/**
 * Shapes of puzzle grids: squares, hexes, triangles, rings, and graphs that are told; who is next
 * to whom, walls between, what is seen, parts, ways, areas, turns that keep all, and a text of what
 * stands where.
 */
public final class GridShapes {
    private static final int SQUARES = 0;
    private static final int HEXES = 1;
    private static final int TRIANGLES = 2;
    private static final int RINGS = 3;
    private static final int GRAPHS = 4;

    private static final int LONGEST_SIDE = 16;
    private static final int GREATEST_MARK = 99;
    private static final int GREATEST_BYTE = 255;
    private static final int MOST_BYTES = 1200;
    private static final int NONE = -1;

    private static final int BLANK = 32;
    private static final int DIGIT_0 = 48;
    private static final int DIGIT_9 = 57;
    private static final int BEFORE_A = 96;
    private static final int LETTERS = 26;

    private final Frame frame;
    private final Net net;
    private final Turns turns;
    private final Walk walk;
    private final Scribe scribe;
    private final Draft draft;
    private final Row came;
    private final int[] marks;
    private final int[] areas;

    public GridShapes(int kind, int width, int height) {
        frame = new Frame(kind, width, height);
        net = new Net(frame);
        turns = new Turns(frame);
        walk = new Walk(frame, net);
        scribe = new Scribe(frame);
        draft = new Draft(frame);
        came = new Row(MOST_BYTES);
        marks = new int[frame.count];
        areas = new int[frame.count];
    }

    public boolean join(int a, int b) throws ArrayIndexOutOfBoundsException {
        demandPlace(a);
        demandPlace(b);
        if (frame.kind != GRAPHS || a == b || net.slotOf(a, b) != NONE) {
            return false;
        }
        net.tie(a, b);
        return true;
    }

    public int places() {
        return frame.count;
    }

    public int degree(int place, boolean next) throws ArrayIndexOutOfBoundsException {
        demandPlace(place);
        int found = 0;
        for (int slot = 0; slot < net.slots; slot++) {
            int other = next ? net.openAt(place, slot) : net.besideAt(place, slot);
            if (other != NONE) {
                found++;
            }
        }
        return found;
    }

    public int neighbour(int place, int k) throws ArrayIndexOutOfBoundsException {
        demandPlace(place);
        int found = 0;
        for (int slot = 0; slot < net.slots; slot++) {
            int other = net.besideAt(place, slot);
            if (other != NONE) {
                if (found == k) {
                    return other;
                }
                found++;
            }
        }
        return NONE;
    }

    public boolean wall(int a, int b, boolean on) throws ArrayIndexOutOfBoundsException {
        demandPlace(a);
        demandPlace(b);
        int slot = net.slotOf(a, b);
        if (slot == NONE || net.walledAt(a, slot) == on) {
            return false;
        }
        net.setWall(a, slot, on);
        net.setWall(b, net.slotOf(b, a), on);
        return true;
    }

    public int pairs(boolean walled) {
        int found = 0;
        for (int place = 0; place < frame.count; place++) {
            for (int slot = 0; slot < net.slots; slot++) {
                // Each pair is met from both sides; it counts from its lesser place alone.
                boolean isPair = net.besideAt(place, slot) > place;
                if (isPair && (!walled || net.walledAt(place, slot))) {
                    found++;
                }
            }
        }
        return found;
    }

    public int pair(int k, boolean greater) {
        int found = 0;
        for (int lesser = 0; lesser < frame.count; lesser++) {
            int other = net.leastBeyond(lesser, lesser);
            for (int slot = 0; slot < net.slots && other != NONE; slot++) {
                if (found == k) {
                    return greater ? other : lesser;
                }
                found++;
                other = net.leastBeyond(lesser, other);
            }
        }
        return NONE;
    }

    public int seen(int place, int direction, int i) throws ArrayIndexOutOfBoundsException {
        demandPlace(place);
        if (direction < 0 || direction >= frame.directions()) {
            return NONE;
        }
        int last = net.openAt(place, direction);
        for (int passed = 0; passed < frame.count && last != NONE && last != place; passed++) {
            if (passed == i) {
                return last;
            }
            last = net.openAt(last, direction);
        }
        return NONE;
    }

    public int far(int a, int b) throws ArrayIndexOutOfBoundsException {
        demandPlace(a);
        demandPlace(b);
        walk.admitAll();
        walk.spreadFrom(a);
        return walk.stepsTo(b);
    }

    public int parts(int area) {
        if (area < 0) {
            walk.admitAll();
        } else {
            walk.admitArea(areas, area);
        }
        return walk.countParts();
    }

    public int without(int place) throws ArrayIndexOutOfBoundsException {
        demandPlace(place);
        walk.admitAll();
        walk.refuse(place);
        return walk.countParts();
    }

    public boolean area(int place, int number) throws ArrayIndexOutOfBoundsException {
        demandPlace(place);
        if (number < 0 || number >= frame.count) {
            return false;
        }
        areas[place] = number;
        return true;
    }

    public int size(int area) {
        int found = 0;
        for (int place = 0; place < areas.length; place++) {
            if (areas[place] == area) {
                found++;
            }
        }
        return found;
    }

    public boolean mark(int place, int v) throws ArrayIndexOutOfBoundsException {
        demandPlace(place);
        if (v < 0 || v > GREATEST_MARK) {
            return false;
        }
        marks[place] = v;
        return true;
    }

    public int image(int turn, int place) throws ArrayIndexOutOfBoundsException {
        demandPlace(place);
        return turns.has(turn) ? turns.placeAfter(turn, place) : NONE;
    }

    public boolean keeps(int turn) {
        return turns.has(turn) && keepsAllPlaces(turn);
    }

    public int keeping() {
        int found = 0;
        for (int turn = 0; turn < turns.count; turn++) {
            if (keepsAllPlaces(turn)) {
                found++;
            }
        }
        return found;
    }

    public int text(int i) {
        scribe.spell(marks);
        return scribe.line.at(i);
    }

    public boolean unit(int u) {
        return u >= 0 && u <= GREATEST_BYTE && came.put(u);
    }

    public int read() {
        int fault = draft.firstFault(came);
        came.clear();
        if (fault != NONE) {
            return -1 - fault;
        }
        draft.copyTo(marks);
        return frame.count;
    }

    private void demandPlace(int place) {
        if (!frame.has(place)) {
            throw new ArrayIndexOutOfBoundsException("no such place");
        }
    }

    private boolean keepsAllPlaces(int turn) {
        for (int place = 0; place < marks.length; place++) {
            int image = turns.placeAfter(turn, place);
            if (!frame.has(image) || marks[place] != marks[image]
                    || !keepsBeside(turn, place, image)) {
                return false;
            }
        }
        return true;
    }

    // A turn takes no two places to one, so when it takes every pair of neighbours to neighbours,
    // no other pair can become neighbours: this one side is all that must be looked at.
    private boolean keepsBeside(int turn, int place, int image) {
        for (int slot = 0; slot < net.slots; slot++) {
            int other = net.besideAt(place, slot);
            if (other != NONE) {
                int slotOfImage = net.slotOf(image, turns.placeAfter(turn, other));
                if (slotOfImage == NONE
                        || net.walledAt(place, slot) != net.walledAt(image, slotOfImage)) {
                    return false;
                }
            }
        }
        return true;
    }

    private static int within(int value, int least, int greatest) {
        return value < least ? least : value > greatest ? greatest : value;
    }

    private static boolean isDigit(int unit) {
        return unit >= DIGIT_0 && unit <= DIGIT_9;
    }

    /** How far a grid goes, which place lies where, and who lies beside whom before any join. */
    private static final class Frame {
        final int kind;
        final int width;
        final int height;
        final int count;
        private final int[] columns;
        private final int[] rows;

        Frame(int askedKind, int askedWidth, int askedHeight) {
            kind = within(askedKind, SQUARES, GRAPHS);
            width = within(askedWidth, 1, LONGEST_SIDE);
            height = kind == GRAPHS ? 1 : within(askedHeight, 1, LONGEST_SIDE);
            count = width * height;
            columns = new int[count];
            rows = new int[count];
            for (int y = 0; y < height; y++) {
                for (int x = 0; x < width; x++) {
                    columns[width * y + x] = x;
                    rows[width * y + x] = y;
                }
            }
        }

        boolean has(int place) {
            return place >= 0 && place < count;
        }

        int columnOf(int place) {
            return has(place) ? columns[place] : NONE;
        }

        int rowOf(int place) {
            return has(place) ? rows[place] : NONE;
        }

        int placeAt(int x, int y) {
            boolean inside = x >= 0 && x < width && y >= 0 && y < height;
            return inside ? width * y + x : NONE;
        }

        // A graph's place has a slot for each place, so that its neighbours stand by their numbers.
        int slots() {
            switch (kind) {
                case HEXES:
                    return 6;
                case TRIANGLES:
                    return 3;
                case GRAPHS:
                    return count;
                default:
                    return 4;
            }
        }

        int directions() {
            switch (kind) {
                case HEXES:
                    return 6;
                case TRIANGLES:
                    return 2;
                case GRAPHS:
                    return 0;
                default:
                    return 4;
            }
        }

        int firstBeside(int place, int slot) {
            int x = columnOf(place);
            int y = rowOf(place);
            switch (kind) {
                case SQUARES:
                    return besideInSquares(x, y, slot);
                case HEXES:
                    return besideInHexes(x, y, slot);
                case TRIANGLES:
                    return besideInTriangles(x, y, slot);
                case RINGS:
                    return besideInRings(x, y, slot);
                default:
                    return NONE;
            }
        }

        private int besideInSquares(int x, int y, int slot) {
            switch (slot) {
                case 0:
                    return placeAt(x, y - 1);
                case 1:
                    return placeAt(x + 1, y);
                case 2:
                    return placeAt(x, y + 1);
                case 3:
                    return placeAt(x - 1, y);
                default:
                    return NONE;
            }
        }

        private int besideInHexes(int x, int y, int slot) {
            int toRight = (y & 1) == 0 ? x : x + 1;
            int toLeft = toRight - 1;
            switch (slot) {
                case 0:
                    return placeAt(toRight, y - 1);
                case 1:
                    return placeAt(x + 1, y);
                case 2:
                    return placeAt(toRight, y + 1);
                case 3:
                    return placeAt(toLeft, y + 1);
                case 4:
                    return placeAt(x - 1, y);
                case 5:
                    return placeAt(toLeft, y - 1);
                default:
                    return NONE;
            }
        }

        private int besideInTriangles(int x, int y, int slot) {
            boolean pointsUp = ((x + y) & 1) == 0;
            switch (slot) {
                case 0:
                    return placeAt(x - 1, y);
                case 1:
                    return placeAt(x + 1, y);
                case 2:
                    return placeAt(x, pointsUp ? y + 1 : y - 1);
                default:
                    return NONE;
            }
        }

        private int besideInRings(int x, int y, int slot) {
            switch (slot) {
                case 0:
                    return placeAt(x, y - 1);
                case 1:
                    return width < 2 ? NONE : placeAt(x == width - 1 ? 0 : x + 1, y);
                case 2:
                    return placeAt(x, y + 1);
                case 3:
                    // In a ring of two the other place is onward, and must not count twice.
                    return width < 3 ? NONE : placeAt(x == 0 ? width - 1 : x - 1, y);
                default:
                    return NONE;
            }
        }
    }

    /** Each place's neighbours, a slot for each that could be, and the walls towards them. */
    private static final class Net {
        final int slots;
        private final int count;
        private final int[] beside;
        private final boolean[] walled;

        Net(Frame frame) {
            count = frame.count;
            slots = frame.slots();
            beside = new int[count * slots];
            walled = new boolean[count * slots];
            for (int place = 0; place < count; place++) {
                for (int slot = 0; slot < slots; slot++) {
                    beside[place * slots + slot] = frame.firstBeside(place, slot);
                }
            }
        }

        private boolean has(int place, int slot) {
            return place >= 0 && place < count && slot >= 0 && slot < slots;
        }

        int besideAt(int place, int slot) {
            return has(place, slot) ? beside[place * slots + slot] : NONE;
        }

        boolean walledAt(int place, int slot) {
            return has(place, slot) && walled[place * slots + slot];
        }

        int openAt(int place, int slot) {
            return walledAt(place, slot) ? NONE : besideAt(place, slot);
        }

        int slotOf(int place, int other) {
            if (other != NONE) {
                for (int slot = 0; slot < slots; slot++) {
                    if (besideAt(place, slot) == other) {
                        return slot;
                    }
                }
            }
            return NONE;
        }

        int leastBeyond(int place, int bound) {
            int least = NONE;
            for (int slot = 0; slot < slots; slot++) {
                int other = besideAt(place, slot);
                if (other > bound && (least == NONE || other < least)) {
                    least = other;
                }
            }
            return least;
        }

        /** Only for graphs, where the slot of a neighbour is its number. */
        void tie(int a, int b) {
            if (has(a, b) && has(b, a)) {
                beside[a * slots + b] = b;
                beside[b * slots + a] = a;
            }
        }

        void setWall(int place, int slot, boolean on) {
            if (has(place, slot)) {
                walled[place * slots + slot] = on;
            }
        }
    }

    /** The turns that there are, and where they put places. */
    private static final class Turns {
        final int count;
        private final Frame frame;

        Turns(Frame frame) {
            this.frame = frame;
            if (frame.kind == GRAPHS) {
                count = 1;
            } else if (frame.kind == RINGS) {
                count = 2 * frame.width;
            } else {
                count = frame.width == frame.height ? 8 : 4;
            }
        }

        boolean has(int turn) {
            return turn >= 0 && turn < count;
        }

        int placeAfter(int turn, int place) {
            int x = frame.columnOf(place);
            int y = frame.rowOf(place);
            if (frame.kind == RINGS) {
                return frame.placeAt(columnAround(turn, x), y);
            }
            // The bits of a turn: 1 mirrors the new column, 2 the new row, 4 swaps the two first;
            // a swap is only there when the grid is as wide as high.
            boolean swapped = (turn & 4) != 0;
            int column = swapped ? y : x;
            int row = swapped ? x : y;
            int newColumn = (turn & 1) != 0 ? frame.width - 1 - column : column;
            int newRow = (turn & 2) != 0 ? frame.height - 1 - row : row;
            return frame.placeAt(newColumn, newRow);
        }

        private int columnAround(int turn, int x) {
            int shift = turn >> 1;
            if ((turn & 1) == 0) {
                int onward = x + shift;
                return onward >= frame.width ? onward - frame.width : onward;
            }
            int backward = shift - x;
            return backward < 0 ? backward + frame.width : backward;
        }
    }

    /** Steps over the net, among those places that are admitted. */
    private static final class Walk {
        private static final int FRESH = -1;
        private static final int REFUSED = -2;

        private final Net net;
        private final int[] steps;
        private final Row reached;

        Walk(Frame frame, Net net) {
            this.net = net;
            steps = new int[frame.count];
            reached = new Row(frame.count);
        }

        void admitAll() {
            for (int place = 0; place < steps.length; place++) {
                steps[place] = FRESH;
            }
        }

        void admitArea(int[] areas, int area) {
            for (int place = 0; place < steps.length && place < areas.length; place++) {
                steps[place] = areas[place] == area ? FRESH : REFUSED;
            }
        }

        void refuse(int place) {
            if (place >= 0 && place < steps.length) {
                steps[place] = REFUSED;
            }
        }

        int stepsTo(int place) {
            return place >= 0 && place < steps.length ? steps[place] : REFUSED;
        }

        int countParts() {
            int found = 0;
            for (int place = 0; place < steps.length; place++) {
                if (steps[place] == FRESH) {
                    found++;
                    spreadFrom(place);
                }
            }
            return found;
        }

        void spreadFrom(int start) {
            reached.clear();
            reach(start, 0);
            // No place is reached twice, so the row never grows longer than there are places.
            for (int head = 0; head < steps.length && head < reached.length(); head++) {
                int place = reached.at(head);
                for (int slot = 0; slot < net.slots; slot++) {
                    reach(net.openAt(place, slot), stepsTo(place) + 1);
                }
            }
        }

        private void reach(int place, int step) {
            if (place >= 0 && place < steps.length && steps[place] == FRESH) {
                steps[place] = step;
                reached.put(place);
            }
        }
    }

    /** Numbers one behind the other, up to as many as it has room for. */
    private static final class Row {
        private final int[] cells;
        private int filled;

        Row(int room) {
            cells = new int[room < 0 ? 0 : room];
        }

        int length() {
            return filled;
        }

        int at(int i) {
            return i >= 0 && i < filled && i < cells.length ? cells[i] : NONE;
        }

        boolean put(int value) {
            if (filled < 0 || filled >= cells.length) {
                return false;
            }
            cells[filled] = value;
            filled++;
            return true;
        }

        void clear() {
            filled = 0;
        }
    }

    /** Writes marks as a text. */
    private static final class Scribe {
        final Row line;

        Scribe(Frame frame) {
            // The longest text has two digits for each place and blanks between.
            line = new Row(3 * frame.count);
        }

        void spell(int[] marks) {
            line.clear();
            int empty = 0;
            for (int place = 0; place < marks.length; place++) {
                if (marks[place] == 0) {
                    empty++;
                } else {
                    if (place > 0 && empty == 0) {
                        line.put(BLANK);
                    }
                    spellEmpty(empty);
                    spellNumber(marks[place]);
                    empty = 0;
                }
            }
            spellEmpty(empty);
        }

        private void spellEmpty(int empty) {
            int left = empty;
            for (; left >= LETTERS; left -= LETTERS) {
                line.put(BEFORE_A + LETTERS);
            }
            if (left > 0) {
                line.put(BEFORE_A + left);
            }
        }

        private void spellNumber(int mark) {
            if (mark >= 10) {
                line.put(DIGIT_0 + mark / 10);
            }
            line.put(DIGIT_0 + mark % 10);
        }
    }

    /** Marks as they are read, held back until the whole text has turned out to be one. */
    private static final class Draft {
        private final int[] marks;
        private int filled;
        private int digits;

        Draft(Frame frame) {
            marks = new int[frame.count];
        }

        int firstFault(Row line) {
            filled = 0;
            digits = 0;
            for (int i = 0; i < line.length(); i++) {
                if (!takes(line.at(i), line.at(i + 1))) {
                    return i;
                }
            }
            return filled < marks.length ? line.length() : NONE;
        }

        void copyTo(int[] target) {
            for (int place = 0; place < marks.length && place < target.length; place++) {
                target[place] = marks[place];
            }
        }

        private boolean takes(int unit, int following) {
            if (isDigit(unit)) {
                return digits == 0 ? beginsNumber(unit - DIGIT_0) : endsNumber(unit - DIGIT_0);
            }
            boolean behindDigit = digits > 0;
            digits = 0;
            if (unit == BLANK) {
                return behindDigit && isDigit(following);
            }
            return unit > BEFORE_A && unit <= BEFORE_A + LETTERS && leavesEmpty(unit - BEFORE_A);
        }

        private boolean beginsNumber(int digit) {
            if (digit == 0 || filled < 0 || filled >= marks.length) {
                return false;
            }
            marks[filled] = digit;
            filled++;
            digits = 1;
            return true;
        }

        private boolean endsNumber(int digit) {
            int place = filled - 1;
            if (digits != 1 || place < 0 || place >= marks.length) {
                return false;
            }
            marks[place] = 10 * marks[place] + digit;
            digits = 2;
            return true;
        }

        private boolean leavesEmpty(int number) {
            if (filled < 0 || number > marks.length - filled) {
                return false;
            }
            for (int i = 0; i < number; i++) {
                marks[filled] = 0;
                filled++;
            }
            return true;
        }
    }
}
