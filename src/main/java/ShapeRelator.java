import java.util.Arrays;

/**
 * How two shapes in the plane lie to each other, exactly: for the inside, the rim and the outside
 * of the one, and of the other, of what dimension is what they have in common.
 */
public final class ShapeRelator {
    public static final int NONE = -1;

    private static final int POINTS = 1;
    private static final int LINES = 2;
    private static final int AREA = 3;

    private static final int INSIDE = 0;
    private static final int RIM = 1;
    private static final int OUTSIDE = 2;

    private static final int FARTHEST = 500000000;
    private static final int MOST_PARTS = 1024;
    private static final int MOST_POINTS = 2048;
    private static final int FIRST_ROOM = 16;

    private final Figure first;
    private final Figure second;
    private final Overlay overlay;

    public ShapeRelator() {
        first = new Figure();
        second = new Figure();
        overlay = new Overlay(first, second);
    }

    public int shape(int shape, int kind) throws IndexOutOfBoundsException, IllegalArgumentException {
        Figure figure = figureOf(shape);
        if (kind < POINTS || kind > AREA) {
            throw new IllegalArgumentException("no such kind");
        }
        int had = figure.pointCount;
        figure.beginAnew(kind);
        overlay.forget();
        return had;
    }

    public int part(int shape) throws IndexOutOfBoundsException, IllegalStateException {
        Figure figure = figureOf(shape);
        if (figure.partCount >= MOST_PARTS) {
            throw new IllegalStateException("too many parts");
        }
        figure.beginPart();
        return figure.partCount;
    }

    public int point(int shape, int x, int y)
            throws IndexOutOfBoundsException, IllegalArgumentException, IllegalStateException {
        Figure figure = figureOf(shape);
        refuseFarPlace(x, y);
        if (figure.partCount == 0) {
            throw new IllegalStateException("no part has begun");
        }
        if (figure.pointCount >= MOST_POINTS) {
            throw new IllegalStateException("too many points");
        }
        figure.addPoint(x, y);
        overlay.forget();
        return figure.pointCount;
    }

    public int locate(int shape, int x, int y) throws IndexOutOfBoundsException, IllegalArgumentException {
        Figure figure = figureOf(shape);
        refuseFarPlace(x, y);
        figure.prepare();
        return figure.whereIs(x, y);
    }

    public int relate() {
        overlay.refresh();
        int number = 0;
        for (int own = INSIDE; own <= OUTSIDE; own++) {
            for (int other = INSIDE; other <= OUTSIDE; other++) {
                number = 4 * number + overlay.at(own, other) + 1;
            }
        }
        return number;
    }

    public int entry(int own, int other) throws IndexOutOfBoundsException {
        if (own < INSIDE || own > OUTSIDE || other < INSIDE || other > OUTSIDE) {
            throw new IndexOutOfBoundsException("no such entry");
        }
        overlay.refresh();
        return overlay.at(own, other);
    }

    public boolean is(int what) throws IndexOutOfBoundsException {
        if (what < 0 || what > 8) {
            throw new IndexOutOfBoundsException("no such question");
        }
        overlay.refresh();
        switch (what) {
            case 0: return overlay.areEqual();
            case 1: return !overlay.haveCommonPlace();
            case 2: return !overlay.has(INSIDE, INSIDE) && overlay.haveCommonPlace();
            case 3: return overlay.doCross();
            case 4: return overlay.has(INSIDE, INSIDE) && !overlay.firstLeavesSecond();
            case 5: return overlay.has(INSIDE, INSIDE) && !overlay.secondLeavesFirst();
            case 6: return overlay.doOverlap();
            case 7: return overlay.haveCommonPlace() && !overlay.firstLeavesSecond();
            default: return overlay.haveCommonPlace() && !overlay.secondLeavesFirst();
        }
    }

    public int dimension(int shape) throws IndexOutOfBoundsException {
        Figure figure = figureOf(shape);
        overlay.refresh();
        return figure == first
                ? Math.max(overlay.dimensionInFirst(INSIDE), overlay.dimensionInFirst(RIM))
                : Math.max(overlay.dimensionInSecond(INSIDE), overlay.dimensionInSecond(RIM));
    }

    public int count(int shape, int what) throws IndexOutOfBoundsException {
        Figure figure = figureOf(shape);
        switch (what) {
            case 0: return figure.kind;
            case 1: return figure.partCount;
            case 2: return figure.pointCount;
            default: throw new IndexOutOfBoundsException("nothing of this number is counted");
        }
    }

    private Figure figureOf(int shape) {
        if (shape != 0 && shape != 1) {
            throw new IndexOutOfBoundsException("no such shape");
        }
        return shape == 0 ? first : second;
    }

    private static void refuseFarPlace(int x, int y) {
        if (x < -FARTHEST || x > FARTHEST || y < -FARTHEST || y > FARTHEST) {
            throw new IllegalArgumentException("x or y is too far out");
        }
    }

    /**
     * One shape. Beside its points it keeps what is made of them: segments, and MARKS, the places
     * that are something by themselves and not by a segment (each of POINTS, the rim of LINES).
     */
    private static final class Figure {
        int kind = POINTS;
        int partCount = 0;
        int pointCount = 0;
        int[] xs = new int[FIRST_ROOM];
        int[] ys = new int[FIRST_ROOM];
        int[] partStarts = new int[FIRST_ROOM];

        boolean prepared = false;
        int segmentCount = 0;
        int[] tails = new int[FIRST_ROOM];
        int[] heads = new int[FIRST_ROOM];
        int markCount = 0;
        int[] marks = new int[FIRST_ROOM];

        /** Of each point: on which side of the segment being walked it lies. */
        long[] sides = new long[FIRST_ROOM];

        void beginAnew(int newKind) {
            kind = newKind;
            partCount = 0;
            pointCount = 0;
            prepared = false;
        }

        void beginPart() {
            if (partCount == partStarts.length) {
                partStarts = Arrays.copyOf(partStarts, 2 * partCount);
            }
            partStarts[partCount] = pointCount;
            partCount++;
            prepared = false;
        }

        void addPoint(int x, int y) {
            if (pointCount == xs.length) {
                xs = Arrays.copyOf(xs, 2 * pointCount);
                ys = Arrays.copyOf(ys, 2 * pointCount);
            }
            xs[pointCount] = x;
            ys[pointCount] = y;
            pointCount++;
            prepared = false;
        }

        void prepare() {
            if (prepared) {
                return;
            }
            makeRoomForPrepared();
            segmentCount = 0;
            markCount = 0;
            for (int part = 0; part < partCount; part++) {
                int start = partStarts[part];
                int end = part + 1 < partCount ? partStarts[part + 1] : pointCount;
                if (start < end) {
                    preparePart(start, end - 1);
                }
            }
            prepared = true;
        }

        // A shape has at most as many segments, and as many marks, as it has points.
        private void makeRoomForPrepared() {
            if (tails.length < xs.length) {
                tails = new int[xs.length];
                heads = new int[xs.length];
                marks = new int[xs.length];
                sides = new long[xs.length];
            }
        }

        private void preparePart(int start, int last) {
            if (kind == POINTS) {
                for (int point = start; point <= last; point++) {
                    addMark(point);
                }
                return;
            }
            for (int point = start; point < last; point++) {
                addSegment(point, point + 1);
            }
            if (kind == AREA) {
                addSegment(last, start);
            } else {
                turnMark(start);
                turnMark(last);
            }
        }

        private void addMark(int point) {
            marks[markCount] = point;
            markCount++;
        }

        // Marking and unmarking in turn leaves the places that are ends an odd number of times.
        private void turnMark(int point) {
            int found = markAt(xs[point], ys[point]);
            if (found == NONE) {
                addMark(point);
            } else {
                markCount--;
                marks[found] = marks[markCount];
            }
        }

        private int markAt(int x, int y) {
            for (int mark = 0; mark < markCount; mark++) {
                int point = marks[mark];
                if (xs[point] == x && ys[point] == y) {
                    return mark;
                }
            }
            return NONE;
        }

        private void addSegment(int tail, int head) {
            if (xs[tail] == xs[head] && ys[tail] == ys[head]) {
                return;
            }
            tails[segmentCount] = tail;
            heads[segmentCount] = head;
            segmentCount++;
        }

        int whereIs(int x, int y) {
            if (markAt(x, y) != NONE) {
                return placeOnMark();
            }
            boolean odd = false;
            for (int segment = 0; segment < segmentCount; segment++) {
                int tail = tails[segment];
                int head = heads[segment];
                long side = sideOfSegment(tail, head, x, y);
                if (side == 0 && isInBox(tail, head, x, y)) {
                    return placeOnSegment();
                }
                boolean rises = ys[head] > y;
                // Places that have the segment to the right of them are on its left hand if it rises,
                // on its right hand if it falls.
                if (rises != (ys[tail] > y) && rises == (side > 0)) {
                    odd = !odd;
                }
            }
            return placeOffSegments(odd);
        }

        private long sideOfSegment(int tail, int head, int x, int y) {
            long tailX = xs[tail];
            long tailY = ys[tail];
            return (xs[head] - tailX) * (y - tailY) - (ys[head] - tailY) * (x - tailX);
        }

        private boolean isInBox(int tail, int head, int x, int y) {
            return Math.min(xs[tail], xs[head]) <= x && x <= Math.max(xs[tail], xs[head])
                    && Math.min(ys[tail], ys[head]) <= y && y <= Math.max(ys[tail], ys[head]);
        }

        int placeOnMark() {
            return kind == LINES ? RIM : INSIDE;
        }

        int placeOnSegment() {
            return kind == LINES ? INSIDE : RIM;
        }

        int placeOffSegments(boolean odd) {
            return kind == AREA && odd ? INSIDE : OUTSIDE;
        }
    }

    /** The segment being walked, from its tail to its head. */
    private static final class Beam {
        private long x;
        private long y;
        private long dx;
        private long dy;

        void lay(Figure figure, int segment) {
            int tail = figure.tails[segment];
            int head = figure.heads[segment];
            x = figure.xs[tail];
            y = figure.ys[tail];
            dx = figure.xs[head] - x;
            dy = figure.ys[head] - y;
        }

        /** Above 0 to the left of its line, 0 on it, below 0 to the right; at most 2 * 10^18 from 0. */
        long sideOf(int px, int py) {
            return dx * (py - y) - dy * (px - x);
        }

        /** For a place on its line: how far it is along, from 0 at the tail to span() at the head. */
        long along(int px, int py) {
            if (dx != 0) {
                return dx > 0 ? px - x : x - px;
            }
            return dy > 0 ? py - y : y - py;
        }

        long span() {
            return Math.abs(dx != 0 ? dx : dy);
        }

        /** How far along its line a segment from a place cuts it, times the turn from it to that segment. */
        long reach(int px, int py, int qx, int qy) {
            return (px - x) * ((long) qy - py) - (py - y) * ((long) qx - px);
        }
    }

    /**
     * The cuts of a walked segment, each at a fraction from 0 to 1 of it. The fractions are kept
     * whole, over and under, since a rounded one could change places with its neighbour.
     */
    private static final class Cuts {
        static final int MEETS = 1;
        static final int MARKED = 2;
        static final int COVER_BEGINS = 4;
        static final int COVER_ENDS = 8;
        static final int TURNS_LEFT = 16;
        static final int TURNS_RIGHT = 32;
        static final int OF_SECOND = 64;

        private static final int HALF_BITS = 31;
        private static final long LOW_HALF = (1L << 31) - 1;
        private static final long LOW_WHOLE = (1L << 62) - 1;

        int size = 0;
        private long[] overs = new long[FIRST_ROOM];
        private long[] unders = new long[FIRST_ROOM];
        private int[] signs = new int[FIRST_ROOM];
        private int[] order = new int[FIRST_ROOM];
        private int[] spare = new int[FIRST_ROOM];

        void clear() {
            size = 0;
        }

        void add(long over, long under, int sign) {
            if (size == signs.length) {
                overs = Arrays.copyOf(overs, 2 * size);
                unders = Arrays.copyOf(unders, 2 * size);
                signs = Arrays.copyOf(signs, 2 * size);
                order = Arrays.copyOf(order, 2 * size);
                spare = new int[2 * size];
            }
            overs[size] = over;
            unders[size] = under;
            signs[size] = sign;
            order[size] = size;
            size++;
        }

        int sign(int place) {
            return signs[order[place]];
        }

        boolean isLastOfItsPlace(int place) {
            return place + 1 >= size || compare(order[place], order[place + 1]) != 0;
        }

        void sort() {
            for (int width = 1; width < size; width = 2 * width) {
                for (int start = 0; start < size; start += 2 * width) {
                    merge(start, Math.min(start + width, size), Math.min(start + 2 * width, size));
                }
                int[] merged = spare;
                spare = order;
                order = merged;
            }
        }

        private void merge(int start, int middle, int end) {
            int left = start;
            int right = middle;
            for (int to = start; to < end; to++) {
                boolean takeLeft = right >= end
                        || (left < middle && compare(order[left], order[right]) <= 0);
                if (takeLeft) {
                    spare[to] = order[left];
                    left++;
                } else {
                    spare[to] = order[right];
                    right++;
                }
            }
        }

        private int compare(int one, int two) {
            if (unders[one] == unders[two]) {
                return Long.compare(overs[one], overs[two]);
            }
            long highOne = highOfProduct(overs[one], unders[two]);
            long highTwo = highOfProduct(overs[two], unders[one]);
            if (highOne != highTwo) {
                return Long.compare(highOne, highTwo);
            }
            return Long.compare(overs[one] * unders[two] & LOW_WHOLE, overs[two] * unders[one] & LOW_WHOLE);
        }

        // The product without its low 62 bits; both are from 0 to 2 * 10^18, so halves of 31 bits hold them.
        private static long highOfProduct(long a, long b) {
            long highA = a >> HALF_BITS;
            long lowA = a & LOW_HALF;
            long highB = b >> HALF_BITS;
            long lowB = b & LOW_HALF;
            long middle = highA * lowB + lowA * highB;
            long low = lowA * lowB + ((middle & LOW_HALF) << HALF_BITS);
            return highA * highB + (middle >>> HALF_BITS) + (low >>> (2 * HALF_BITS));
        }
    }

    /**
     * Where one figure is at a place, ahead of it, and to the left and the right, while a segment is
     * walked. Left and right are told by how often a line ahead, moved by next to nothing to that
     * side, crosses the figure: any line tells the same as one straight to the right.
     */
    private static final class Course {
        final Figure figure;
        final int sign;
        private int covers = 0;
        private int coversGained = 0;
        private boolean meets = false;
        private boolean marked = false;
        private int turnsAhead = 0;
        private int turnsHere = 0;

        Course(Figure figure, int sign) {
            this.figure = figure;
            this.sign = sign;
        }

        void start() {
            covers = 0;
            turnsAhead = 0;
            forgetPlace();
        }

        void turnAhead(int turns) {
            turnsAhead ^= turns;
        }

        void arrive(int cut) {
            meets = meets || (cut & Cuts.MEETS) != 0;
            marked = marked || (cut & Cuts.MARKED) != 0;
            if ((cut & Cuts.COVER_BEGINS) != 0) {
                coversGained++;
            }
            if ((cut & Cuts.COVER_ENDS) != 0) {
                coversGained--;
            }
            turnsHere ^= cut & (Cuts.TURNS_LEFT | Cuts.TURNS_RIGHT);
        }

        void depart() {
            covers += coversGained;
            turnsAhead ^= turnsHere;
            forgetPlace();
        }

        private void forgetPlace() {
            coversGained = 0;
            meets = false;
            marked = false;
            turnsHere = 0;
        }

        int placeHere() {
            if (marked) {
                return figure.placeOnMark();
            }
            return meets ? figure.placeOnSegment() : placeAhead();
        }

        int placeAhead() {
            return covers > 0 ? figure.placeOnSegment() : placeBeside(Cuts.TURNS_LEFT);
        }

        int placeBeside(int turn) {
            return figure.placeOffSegments((turnsAhead & turn) != 0);
        }
    }

    /**
     * The matrix. Every segment of both figures is walked: what differs from the outside of both has
     * a segment beside it, or is one of POINTS.
     */
    private static final class Overlay {
        private final Course first;
        private final Course second;
        private final Beam beam = new Beam();
        private final Cuts cuts = new Cuts();
        private final int[] matrix = new int[9];
        private boolean fresh = false;

        Overlay(Figure first, Figure second) {
            this.first = new Course(first, 0);
            this.second = new Course(second, Cuts.OF_SECOND);
        }

        void forget() {
            fresh = false;
        }

        void refresh() {
            if (fresh) {
                return;
            }
            first.figure.prepare();
            second.figure.prepare();
            Arrays.fill(matrix, NONE);
            raise(OUTSIDE, OUTSIDE, 2);
            visitPoints(first.figure);
            visitPoints(second.figure);
            walkSegments(first.figure);
            walkSegments(second.figure);
            fresh = true;
        }

        private void raise(int own, int other, int dimension) {
            int index = 3 * own + other;
            if (matrix[index] < dimension) {
                matrix[index] = dimension;
            }
        }

        private void visitPoints(Figure figure) {
            if (figure.kind != POINTS) {
                return;
            }
            for (int point = 0; point < figure.pointCount; point++) {
                int x = figure.xs[point];
                int y = figure.ys[point];
                raise(first.figure.whereIs(x, y), second.figure.whereIs(x, y), 0);
            }
        }

        private void walkSegments(Figure figure) {
            for (int segment = 0; segment < figure.segmentCount; segment++) {
                beam.lay(figure, segment);
                cuts.clear();
                collectCuts(first);
                collectCuts(second);
                cuts.sort();
                walk();
            }
        }

        private void collectCuts(Course course) {
            Figure figure = course.figure;
            course.start();
            for (int point = 0; point < figure.pointCount; point++) {
                figure.sides[point] = beam.sideOf(figure.xs[point], figure.ys[point]);
            }
            for (int segment = 0; segment < figure.segmentCount; segment++) {
                cutBySegment(course, figure.tails[segment], figure.heads[segment]);
            }
            for (int mark = 0; mark < figure.markCount; mark++) {
                cutByMark(course, figure.marks[mark]);
            }
        }

        private void cutBySegment(Course course, int tail, int head) {
            Figure figure = course.figure;
            long tailSide = figure.sides[tail];
            long headSide = figure.sides[head];
            boolean turnsLeft = (tailSide > 0) != (headSide > 0);
            boolean turnsRight = (tailSide < 0) != (headSide < 0);
            if (turnsLeft || turnsRight) {
                int turns = (turnsLeft ? Cuts.TURNS_LEFT : 0) | (turnsRight ? Cuts.TURNS_RIGHT : 0);
                long over = beam.reach(figure.xs[tail], figure.ys[tail], figure.xs[head], figure.ys[head]);
                long under = headSide - tailSide;
                cutAcross(course, under < 0 ? -over : over, Math.abs(under), turns);
            } else if (tailSide == 0) {
                coverAlong(course, tail, head);
            }
        }

        private void cutAcross(Course course, long over, long under, int turns) {
            if (over > 0) {
                course.turnAhead(turns);
            }
            if (over >= 0 && over <= under) {
                // What is crossed at the very tail is never ahead, so passing it turns nothing.
                cuts.add(over, under, course.sign | Cuts.MEETS | (over > 0 ? turns : 0));
            }
        }

        private void coverAlong(Course course, int tail, int head) {
            Figure figure = course.figure;
            long one = beam.along(figure.xs[tail], figure.ys[tail]);
            long two = beam.along(figure.xs[head], figure.ys[head]);
            long span = beam.span();
            long from = Math.max(Math.min(one, two), 0);
            long to = Math.min(Math.max(one, two), span);
            int sign = course.sign | Cuts.MEETS;
            if (from <= to) {
                cuts.add(from, span, sign | Cuts.COVER_BEGINS);
                cuts.add(to, span, sign | Cuts.COVER_ENDS);
            }
        }

        private void cutByMark(Course course, int point) {
            Figure figure = course.figure;
            if (figure.sides[point] != 0) {
                return;
            }
            long along = beam.along(figure.xs[point], figure.ys[point]);
            if (along >= 0 && along <= beam.span()) {
                cuts.add(along, beam.span(), course.sign | Cuts.MARKED);
            }
        }

        private void walk() {
            for (int place = 0; place < cuts.size; place++) {
                int cut = cuts.sign(place);
                if ((cut & Cuts.OF_SECOND) == 0) {
                    first.arrive(cut);
                } else {
                    second.arrive(cut);
                }
                if (cuts.isLastOfItsPlace(place)) {
                    raise(first.placeHere(), second.placeHere(), 0);
                    first.depart();
                    second.depart();
                    if (place + 1 < cuts.size) {
                        raiseAhead();
                    }
                }
            }
        }

        private void raiseAhead() {
            raise(first.placeAhead(), second.placeAhead(), 1);
            raise(first.placeBeside(Cuts.TURNS_LEFT), second.placeBeside(Cuts.TURNS_LEFT), 2);
            raise(first.placeBeside(Cuts.TURNS_RIGHT), second.placeBeside(Cuts.TURNS_RIGHT), 2);
        }

        int at(int own, int other) {
            return matrix[3 * own + other];
        }

        boolean has(int own, int other) {
            return at(own, other) != NONE;
        }

        /** Of what is so in the first shape, wherever it is in the second. */
        int dimensionInFirst(int own) {
            return Math.max(at(own, INSIDE), Math.max(at(own, RIM), at(own, OUTSIDE)));
        }

        int dimensionInSecond(int other) {
            return Math.max(at(INSIDE, other), Math.max(at(RIM, other), at(OUTSIDE, other)));
        }

        boolean haveCommonPlace() {
            return has(INSIDE, INSIDE) || has(INSIDE, RIM) || has(RIM, INSIDE) || has(RIM, RIM);
        }

        boolean firstLeavesSecond() {
            return has(INSIDE, OUTSIDE) || has(RIM, OUTSIDE);
        }

        boolean secondLeavesFirst() {
            return has(OUTSIDE, INSIDE) || has(OUTSIDE, RIM);
        }

        boolean areEqual() {
            if (dimensionInFirst(INSIDE) == NONE && dimensionInSecond(INSIDE) == NONE) {
                return true;
            }
            return has(INSIDE, INSIDE) && !firstLeavesSecond() && !secondLeavesFirst();
        }

        boolean doCross() {
            int own = dimensionInFirst(INSIDE);
            int other = dimensionInSecond(INSIDE);
            if (own < other) {
                return has(INSIDE, INSIDE) && has(INSIDE, OUTSIDE);
            }
            if (own > other) {
                return has(INSIDE, INSIDE) && has(OUTSIDE, INSIDE);
            }
            return own == 1 && at(INSIDE, INSIDE) == 0;
        }

        boolean doOverlap() {
            int own = dimensionInFirst(INSIDE);
            return own != NONE && own == dimensionInSecond(INSIDE) && at(INSIDE, INSIDE) == own
                    && has(INSIDE, OUTSIDE) && has(OUTSIDE, INSIDE);
        }
    }
}
