/** Runs of 512 calls, in which shapes grow between the questions, and shapes as great as they may be. */
public final class LongRunTest {
    private static final int POINTS = 1;
    private static final int LINES = 2;
    private static final int AREA = 3;
    private static final int FAR = 500000000;

    private static int wrong = 0;

    private static void due(String call, long got, long want) {
        if (got != want) {
            wrong++;
            System.out.println(call + " answered " + got + ", due is " + want);
        }
    }

    private static int number(String matrix) {
        int number = 0;
        for (int i = 0; i < matrix.length(); i++) {
            char c = matrix.charAt(i);
            number = 4 * number + (c == 'F' ? 0 : c - '0' + 1);
        }
        return number;
    }

    /** A zigzag grows through a square; after each point both shapes are asked about. */
    private static void growingZigzag() {
        ShapeRelator x = new ShapeRelator();
        x.shape(0, LINES);
        x.shape(1, AREA);
        x.part(0);
        x.part(1);
        x.point(1, 0, 0);
        x.point(1, 1000, 0);
        x.point(1, 1000, 1000);
        x.point(1, 0, 1000);
        int calls = 8;
        for (int i = 0; calls + 2 <= 512; i++) {
            x.point(0, 3 * i + 1, i % 2 == 0 ? -7 : 1007);
            calls += 2;
            if (i == 0) {
                due("zigzag of one point", x.relate(), number("FFFFFF212"));
            } else {
                due("zigzag of " + (i + 1) + " points", x.relate(), number("101FF0212"));
            }
        }
    }

    /** Every line of one fan crosses every line of the other, far out and near. */
    private static void fans() {
        ShapeRelator x = new ShapeRelator();
        x.shape(0, LINES);
        x.shape(1, LINES);
        for (int i = 0; i < 80; i++) {
            x.part(0);
            x.point(0, -FAR, -FAR + i);
            x.point(0, FAR, FAR - 2 * i);
            x.part(1);
            x.point(1, -FAR + i, FAR);
            x.point(1, FAR - 3 * i, -FAR);
        }
        due("fans", x.relate(), number("0F1FF0102"));
        for (int i = 0; i < 29; i++) {
            due("fans cross", x.is(3) ? 1 : 0, 1);
        }
    }

    private static void comb(ShapeRelator x, int shape, int kind, int points, int depth) {
        x.shape(shape, kind);
        x.part(shape);
        x.point(shape, 0, 0);
        for (int i = 1; i < points - 1; i++) {
            x.point(shape, 10 * i, i % 2 == 0 ? 0 : depth);
        }
        x.point(shape, 10 * points, -depth);
    }

    private static void greatest() {
        ShapeRelator x = new ShapeRelator();
        comb(x, 0, LINES, 2048, 1000);
        comb(x, 1, LINES, 2048, 1000);
        due("greatest: like lines", x.relate(), number("1FFF0FFF2"));
        comb(x, 1, AREA, 2048, 1000);
        due("greatest: lines and area", x.entry(0, 2), -1);
        due("greatest: area", x.dimension(1), 2);
        x.shape(0, POINTS);
        x.part(0);
        for (int i = 0; i < 2048; i++) {
            x.point(0, FAR - i, FAR);
        }
        due("greatest: points apart", x.relate(), number("FF0FFF212"));
        x.shape(1, LINES);
        for (int i = 0; i < 1024; i++) {
            x.part(1);
            x.point(1, FAR - 2 * i, FAR);
            x.point(1, FAR - 2 * i - 1, FAR);
        }
        due("greatest: all points are ends", x.relate(), number("F0FFFF1F2"));
    }

    public static void main(String[] args) {
        growingZigzag();
        fans();
        greatest();
        System.out.println(wrong == 0 ? "all answers are as due" : wrong + " answers are not as due");
        if (wrong != 0) {
            System.exit(1);
        }
    }
}
