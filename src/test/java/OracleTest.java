import java.math.BigInteger;
import java.util.ArrayList;
import java.util.List;
import java.util.Random;
import java.util.TreeSet;

/**
 * Random shapes against a slow way of telling their matrix that shares nothing with the class: the
 * plane is cut into upright strips at every corner and crossing, with whole fractions, and in each
 * strip, and on each line between two, every place that can differ is located by the words of the
 * document.
 */
public final class OracleTest {
    private static final int POINTS = 1;
    private static final int LINES = 2;
    private static final int AREA = 3;
    private static final int FAR = 500000000;

    private static int wrong = 0;

    private static final class Fraction implements Comparable<Fraction> {
        final BigInteger over;
        final BigInteger under;

        Fraction(BigInteger over, BigInteger under) {
            BigInteger common = over.gcd(under);
            if (under.signum() < 0) {
                common = common.negate();
            }
            this.over = over.divide(common);
            this.under = under.divide(common);
        }

        static Fraction of(long whole) {
            return new Fraction(BigInteger.valueOf(whole), BigInteger.ONE);
        }

        Fraction plus(Fraction o) {
            return new Fraction(over.multiply(o.under).add(o.over.multiply(under)), under.multiply(o.under));
        }

        Fraction minus(Fraction o) {
            return plus(new Fraction(o.over.negate(), o.under));
        }

        Fraction times(Fraction o) {
            return new Fraction(over.multiply(o.over), under.multiply(o.under));
        }

        Fraction by(Fraction o) {
            return new Fraction(over.multiply(o.under), under.multiply(o.over));
        }

        static Fraction halfway(Fraction a, Fraction b) {
            return a.plus(b).by(of(2));
        }

        @Override
        public int compareTo(Fraction o) {
            return over.multiply(o.under).compareTo(o.over.multiply(under));
        }
    }

    private record Segment(long ax, long ay, long bx, long by) {
        boolean upright() {
            return ax == bx;
        }

        boolean reachesX(Fraction x) {
            return Fraction.of(Math.min(ax, bx)).compareTo(x) <= 0 && x.compareTo(Fraction.of(Math.max(ax, bx))) <= 0;
        }

        boolean reachesY(Fraction y) {
            return Fraction.of(Math.min(ay, by)).compareTo(y) <= 0 && y.compareTo(Fraction.of(Math.max(ay, by))) <= 0;
        }

        Fraction yAt(Fraction x) {
            return Fraction.of(ay).plus(x.minus(Fraction.of(ax)).times(Fraction.of(by - ay)).by(Fraction.of(bx - ax)));
        }

        Fraction xAt(Fraction y) {
            return Fraction.of(ax).plus(y.minus(Fraction.of(ay)).times(Fraction.of(bx - ax)).by(Fraction.of(by - ay)));
        }

        boolean holds(Fraction x, Fraction y) {
            if (!reachesX(x) || !reachesY(y)) {
                return false;
            }
            return upright() || yAt(x).compareTo(y) == 0;
        }
    }

    private static final class Shape {
        final int kind;
        final List<List<long[]>> parts = new ArrayList<>();

        Shape(int kind) {
            this.kind = kind;
        }

        List<long[]> allPoints() {
            List<long[]> all = new ArrayList<>();
            for (List<long[]> part : parts) {
                all.addAll(part);
            }
            return all;
        }

        List<Segment> segments() {
            List<Segment> found = new ArrayList<>();
            if (kind == POINTS) {
                return found;
            }
            for (List<long[]> part : parts) {
                for (int i = 0; i < part.size(); i++) {
                    if (i + 1 == part.size() && kind == LINES) {
                        break;
                    }
                    long[] a = part.get(i);
                    long[] b = part.get((i + 1) % part.size());
                    if (a[0] != b[0] || a[1] != b[1]) {
                        found.add(new Segment(a[0], a[1], b[0], b[1]));
                    }
                }
            }
            return found;
        }

        int where(Fraction x, Fraction y) {
            if (kind == POINTS) {
                for (long[] p : allPoints()) {
                    if (same(p, x, y)) {
                        return 0;
                    }
                }
                return 2;
            }
            if (kind == LINES) {
                int ends = 0;
                for (List<long[]> part : parts) {
                    if (!part.isEmpty()) {
                        ends += same(part.get(0), x, y) ? 1 : 0;
                        ends += same(part.get(part.size() - 1), x, y) ? 1 : 0;
                    }
                }
                if (ends % 2 == 1) {
                    return 1;
                }
            }
            int crossed = 0;
            for (Segment s : segments()) {
                if (s.holds(x, y)) {
                    return kind == LINES ? 0 : 1;
                }
                boolean aAbove = Fraction.of(s.ay).compareTo(y) > 0;
                boolean bAbove = Fraction.of(s.by).compareTo(y) > 0;
                if (aAbove != bAbove && s.xAt(y).compareTo(x) > 0) {
                    crossed++;
                }
            }
            return kind == AREA && crossed % 2 == 1 ? 0 : 2;
        }

        private static boolean same(long[] p, Fraction x, Fraction y) {
            return Fraction.of(p[0]).compareTo(x) == 0 && Fraction.of(p[1]).compareTo(y) == 0;
        }
    }

    private static int[][] matrixOf(Shape one, Shape two) {
        int[][] matrix = {{-1, -1, -1}, {-1, -1, -1}, {-1, -1, -1}};
        List<Segment> segments = new ArrayList<>(one.segments());
        segments.addAll(two.segments());
        List<long[]> points = new ArrayList<>(one.allPoints());
        points.addAll(two.allPoints());
        List<Fraction> columns = new ArrayList<>(columnsOf(segments, points));
        for (int i = 0; i < columns.size(); i++) {
            walkColumn(matrix, one, two, columns.get(i), segments, points, false);
            if (i + 1 < columns.size()) {
                Fraction middle = Fraction.halfway(columns.get(i), columns.get(i + 1));
                walkColumn(matrix, one, two, middle, segments, points, true);
            }
        }
        return matrix;
    }

    private static TreeSet<Fraction> columnsOf(List<Segment> segments, List<long[]> points) {
        TreeSet<Fraction> columns = new TreeSet<>();
        columns.add(Fraction.of(-2L * FAR));
        columns.add(Fraction.of(2L * FAR));
        for (long[] p : points) {
            columns.add(Fraction.of(p[0]));
        }
        for (Segment s : segments) {
            for (Segment t : segments) {
                BigInteger turn = cross(s.bx - s.ax, s.by - s.ay, t.bx - t.ax, t.by - t.ay);
                if (turn.signum() != 0) {
                    Fraction along = new Fraction(cross(t.ax - s.ax, t.ay - s.ay, t.bx - t.ax, t.by - t.ay), turn);
                    Fraction x = Fraction.of(s.ax).plus(along.times(Fraction.of(s.bx - s.ax)));
                    if (s.reachesX(x) && t.reachesX(x)) {
                        columns.add(x);
                    }
                }
            }
        }
        return columns;
    }

    private static BigInteger cross(long ax, long ay, long bx, long by) {
        return BigInteger.valueOf(ax).multiply(BigInteger.valueOf(by))
                .subtract(BigInteger.valueOf(ay).multiply(BigInteger.valueOf(bx)));
    }

    /** Within a strip a place on a segment stands for a piece of a line, one between for a piece of the plane. */
    private static void walkColumn(int[][] matrix, Shape one, Shape two, Fraction x, List<Segment> segments,
            List<long[]> points, boolean withinStrip) {
        TreeSet<Fraction> found = new TreeSet<>();
        found.add(Fraction.of(-2L * FAR));
        found.add(Fraction.of(2L * FAR));
        for (long[] p : points) {
            if (Fraction.of(p[0]).compareTo(x) == 0) {
                found.add(Fraction.of(p[1]));
            }
        }
        for (Segment s : segments) {
            if (!s.upright() && s.reachesX(x)) {
                found.add(s.yAt(x));
            }
        }
        List<Fraction> ys = new ArrayList<>(found);
        for (int i = 0; i < ys.size(); i++) {
            mark(matrix, one, two, x, ys.get(i), withinStrip ? 1 : 0);
            if (i + 1 < ys.size()) {
                mark(matrix, one, two, x, Fraction.halfway(ys.get(i), ys.get(i + 1)), withinStrip ? 2 : 1);
            }
        }
    }

    private static void mark(int[][] matrix, Shape one, Shape two, Fraction x, Fraction y, int dimension) {
        int own = one.where(x, y);
        int other = two.where(x, y);
        matrix[own][other] = Math.max(matrix[own][other], dimension);
    }

    private static Shape randomShape(Random random, int style) {
        Shape shape = new Shape(1 + random.nextInt(3));
        int parts = random.nextInt(4);
        for (int p = 0; p < parts; p++) {
            List<long[]> part = new ArrayList<>();
            int size = random.nextInt(6);
            for (int i = 0; i < size; i++) {
                part.add(new long[] {coordinate(random, style), coordinate(random, style)});
            }
            if (random.nextInt(6) == 0 && !part.isEmpty()) {
                part.add(part.get(0));
            }
            shape.parts.add(part);
        }
        return shape;
    }

    private static long coordinate(Random random, int style) {
        switch (style) {
            case 0: return random.nextInt(3);
            case 1: return random.nextInt(5) - 2;
            case 2: return random.nextInt(30);
            case 3: return random.nextInt(2 * FAR + 1) - FAR;
            case 4: return (random.nextBoolean() ? 1 : -1) * (FAR - (long) random.nextInt(3));
            default: return (random.nextInt(3) - 1) * (FAR - 2L) + random.nextInt(5) - 2;
        }
    }

    /** Parts of the first shape taken over into the second: equal rims, common ends, holes filled. */
    private static void borrow(Random random, Shape from, Shape to) {
        for (List<long[]> part : from.parts) {
            if (random.nextInt(3) == 0) {
                to.parts.add(new ArrayList<>(part));
            }
        }
    }

    private static void build(ShapeRelator x, int number, Shape shape) {
        x.shape(number, shape.kind);
        for (List<long[]> part : shape.parts) {
            x.part(number);
            for (long[] p : part) {
                x.point(number, (int) p[0], (int) p[1]);
            }
        }
    }

    private static String tell(Shape shape) {
        StringBuilder text = new StringBuilder("kind ").append(shape.kind);
        for (List<long[]> part : shape.parts) {
            text.append(" [");
            for (long[] p : part) {
                text.append(" ").append(p[0]).append(",").append(p[1]);
            }
            text.append(" ]");
        }
        return text.toString();
    }

    private static void due(String what, Shape one, Shape two, long got, long want) {
        if (got != want) {
            wrong++;
            System.out.println(what + " of " + tell(one) + " and " + tell(two) + " answered " + got + ", due is " + want);
        }
    }

    private static int highest(int... numbers) {
        int high = -1;
        for (int number : numbers) {
            high = Math.max(high, number);
        }
        return high;
    }

    private static boolean there(int... entries) {
        return highest(entries) >= 0;
    }

    private static boolean question(int what, int[][] m, int d0, int d1) {
        boolean common = there(m[0][0], m[0][1], m[1][0], m[1][1]);
        switch (what) {
            case 0: return d0 == -1 && d1 == -1 || there(m[0][0]) && !there(m[0][2], m[1][2], m[2][0], m[2][1]);
            case 1: return !common;
            case 2: return !there(m[0][0]) && there(m[0][1], m[1][0], m[1][1]);
            case 3:
                if (d0 < d1) {
                    return there(m[0][0]) && there(m[0][2]);
                }
                if (d0 > d1) {
                    return there(m[0][0]) && there(m[2][0]);
                }
                return d0 == 1 && m[0][0] == 0;
            case 4: return there(m[0][0]) && !there(m[0][2], m[1][2]);
            case 5: return there(m[0][0]) && !there(m[2][0], m[2][1]);
            case 6: return d0 == d1 && d0 != -1 && m[0][0] == d0 && there(m[0][2]) && there(m[2][0]);
            case 7: return common && !there(m[0][2], m[1][2]);
            default: return common && !there(m[2][0], m[2][1]);
        }
    }

    private static void compare(ShapeRelator x, Shape one, Shape two, Random random, int style) {
        int[][] want = matrixOf(one, two);
        long number = 0;
        for (int own = 0; own < 3; own++) {
            for (int other = 0; other < 3; other++) {
                number = number * 4 + want[own][other] + 1;
                due("entry " + own + " " + other, one, two, x.entry(own, other), want[own][other]);
            }
        }
        due("relate", one, two, x.relate(), number);
        int[][] self0 = matrixOf(one, one);
        int[][] self1 = matrixOf(two, two);
        for (int what = 0; what <= 8; what++) {
            boolean wanted = question(what, want, self0[0][0], self1[0][0]);
            due("is " + what, one, two, x.is(what) ? 1 : 0, wanted ? 1 : 0);
        }
        due("dimension 0", one, two, x.dimension(0), Math.max(self0[0][0], self0[1][1]));
        due("dimension 1", one, two, x.dimension(1), Math.max(self1[0][0], self1[1][1]));
        for (int i = 0; i < 10; i++) {
            int px = (int) coordinate(random, style);
            int py = (int) coordinate(random, style);
            due("locate " + px + "," + py, one, two, x.locate(0, px, py), one.where(Fraction.of(px), Fraction.of(py)));
            due("locate 1 " + px + "," + py, one, two, x.locate(1, px, py), two.where(Fraction.of(px), Fraction.of(py)));
        }
    }

    public static void main(String[] args) {
        int rounds = args.length > 0 ? Integer.parseInt(args[0]) : 1500;
        Random random = new Random(args.length > 1 ? Long.parseLong(args[1]) : 7);
        ShapeRelator x = new ShapeRelator();
        for (int round = 0; round < rounds && wrong < 20; round++) {
            int style = round % 6;
            if (round % 5 == 0) {
                x = new ShapeRelator();
            }
            Shape one = randomShape(random, style);
            Shape two = randomShape(random, style);
            if (random.nextInt(3) == 0) {
                borrow(random, one, two);
            }
            build(x, 0, one);
            build(x, 1, two);
            compare(x, one, two, random, style);
        }
        System.out.println(wrong == 0 ? "all answers are as due" : wrong + " answers are not as due");
        if (wrong != 0) {
            System.exit(1);
        }
    }
}
