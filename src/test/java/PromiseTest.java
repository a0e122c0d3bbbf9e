/** Each promise of the document by ordinary inputs, by the edges that it names and by wrong inputs. */
public final class PromiseTest {
    private static final int POINTS = 1;
    private static final int LINES = 2;
    private static final int AREA = 3;
    private static final int FAR = 500000000;

    private static int wrong = 0;
    private static ShapeRelator x;

    private interface Call {
        long run();
    }

    private static void due(String call, Object got, Object want) {
        if (!got.equals(want)) {
            wrong++;
            System.out.println(call + " answered " + got + ", due is " + want);
        }
    }

    private static void answers(String call, long want, Call run) {
        due(call, outcome(run), Long.toString(want));
    }

    private static void refuses(String call, Class<?> want, Call run) {
        due(call, outcome(run), want.getSimpleName());
    }

    private static String outcome(Call run) {
        try {
            return Long.toString(run.run());
        } catch (RuntimeException e) {
            return e.getClass().getSimpleName();
        }
    }

    /** A shape anew; each row is a part: x, y, x, y, .. */
    private static void make(int shape, int kind, int[]... parts) {
        x.shape(shape, kind);
        for (int[] part : parts) {
            x.part(shape);
            for (int i = 0; i < part.length; i += 2) {
                x.point(shape, part[i], part[i + 1]);
            }
        }
    }

    private static int[] at(int... coordinates) {
        return coordinates;
    }

    private static int[] square(int left, int low, int size) {
        return at(left, low, left + size, low, left + size, low + size, left, low + size);
    }

    /** The matrix in the usual writing: F for nothing there. */
    private static void matrixIs(String name, String want) {
        StringBuilder entries = new StringBuilder();
        int number = 0;
        for (int own = 0; own < 3; own++) {
            for (int other = 0; other < 3; other++) {
                int entry = x.entry(own, other);
                entries.append(entry == ShapeRelator.NONE ? "F" : Integer.toString(entry));
                number = number * 4 + entry + 1;
            }
        }
        due(name + ": matrix", entries.toString(), want);
        due(name + ": relate", x.relate(), number);
    }

    /** Which of the nine questions are answered with yes, in order. */
    private static void questionsAre(String name, String want) {
        StringBuilder yes = new StringBuilder();
        for (int what = 0; what <= 8; what++) {
            if (x.is(what)) {
                yes.append(what);
            }
        }
        due(name + ": is", yes.toString(), want);
    }

    private static void newObject() {
        x = new ShapeRelator();
        due("NONE", ShapeRelator.NONE, -1);
        for (int shape = 0; shape < 2; shape++) {
            due("new kind", x.count(shape, 0), POINTS);
            due("new parts", x.count(shape, 1), 0);
            due("new points", x.count(shape, 2), 0);
            due("new dimension", x.dimension(shape), -1);
            due("new locate", x.locate(shape, 0, 0), 2);
        }
        matrixIs("new", "FFFFFFFF2");
        due("new relate", x.relate(), 3);
        questionsAre("new", "01");
    }

    private static void shapes() {
        x = new ShapeRelator();
        make(0, LINES, at(1, 2, 3, 4), at(5, 6));
        make(1, AREA, square(0, 0, 4));
        answers("shape(0, 3)", 3, () -> x.shape(0, 3));
        due("kind after shape", x.count(0, 0), AREA);
        due("parts after shape", x.count(0, 1), 0);
        due("points after shape", x.count(0, 2), 0);
        due("the other's points after shape", x.count(1, 2), 4);
        matrixIs("after shape", "FFFFFF212");
        answers("shape(0, 1) with none", 0, () -> x.shape(0, 1));
        refuses("point after shape", IllegalStateException.class, () -> x.point(0, 0, 0));
        refuses("shape(-1, 1)", IndexOutOfBoundsException.class, () -> x.shape(-1, 1));
        refuses("shape(2, 0)", IndexOutOfBoundsException.class, () -> x.shape(2, 0));
        refuses("shape(1, 0)", IllegalArgumentException.class, () -> x.shape(1, 0));
        refuses("shape(1, 4)", IllegalArgumentException.class, () -> x.shape(1, 4));
        refuses("shape(1, -1)", IllegalArgumentException.class, () -> x.shape(1, Integer.MIN_VALUE));
        due("points after a refused shape", x.count(1, 2), 4);
        due("kind after a refused shape", x.count(1, 0), AREA);
        answers("shape(1, 2)", 4, () -> x.shape(1, 2));
    }

    private static void parts() {
        x = new ShapeRelator();
        for (int i = 1; i <= 1024; i++) {
            due("part", x.part(1), i);
        }
        refuses("part 1025", IllegalStateException.class, () -> x.part(1));
        due("parts", x.count(1, 1), 1024);
        due("the other's parts", x.count(0, 1), 0);
        answers("part of the other", 1, () -> x.part(0));
        refuses("part(2)", IndexOutOfBoundsException.class, () -> x.part(2));
        refuses("part(-1)", IndexOutOfBoundsException.class, () -> x.part(-1));
        due("empty parts are nothing", x.dimension(1), -1);
    }

    private static void points() {
        x = new ShapeRelator();
        refuses("point without part", IllegalStateException.class, () -> x.point(0, 0, 0));
        refuses("far point without part", IllegalArgumentException.class, () -> x.point(0, FAR + 1, 0));
        refuses("far point of no shape", IndexOutOfBoundsException.class, () -> x.point(2, FAR + 1, 0));
        refuses("point(-1, ..)", IndexOutOfBoundsException.class, () -> x.point(-1, 0, 0));
        x.part(0);
        refuses("part of the other one", IllegalStateException.class, () -> x.point(1, 0, 0));
        refuses("x too great", IllegalArgumentException.class, () -> x.point(0, FAR + 1, 0));
        refuses("x too small", IllegalArgumentException.class, () -> x.point(0, -FAR - 1, 0));
        refuses("y too great", IllegalArgumentException.class, () -> x.point(0, 0, FAR + 1));
        refuses("y too small", IllegalArgumentException.class, () -> x.point(0, 0, Integer.MIN_VALUE));
        due("points after refusals", x.count(0, 2), 0);
        answers("the greatest", 1, () -> x.point(0, FAR, FAR));
        answers("the smallest", 2, () -> x.point(0, -FAR, -FAR));
        x.part(0);
        answers("points of all parts", 3, () -> x.point(0, 7, 7));
        for (int i = 4; i <= 2048; i++) {
            due("point", x.point(0, i, -i), i);
        }
        refuses("point 2049", IllegalStateException.class, () -> x.point(0, 0, 0));
        refuses("far point 2049", IllegalArgumentException.class, () -> x.point(0, 0, FAR + 1));
        due("points", x.count(0, 2), 2048);
        due("the last point is there", x.locate(0, 2048, -2048), 0);
        due("the refused one is not", x.locate(0, 0, 0), 2);
    }

    private static void locatePoints() {
        x = new ShapeRelator();
        make(0, POINTS, at(1, 1, 2, 5), at(2, 5), at(-3, 0));
        due("a point", x.locate(0, 1, 1), 0);
        due("a point twice", x.locate(0, 2, 5), 0);
        due("a point of the last part", x.locate(0, -3, 0), 0);
        due("no point", x.locate(0, 1, 5), 2);
        refuses("locate(2, ..)", IndexOutOfBoundsException.class, () -> x.locate(2, FAR + 1, 0));
        refuses("locate(-1, ..)", IndexOutOfBoundsException.class, () -> x.locate(-1, 0, 0));
        refuses("locate x", IllegalArgumentException.class, () -> x.locate(0, FAR + 1, 0));
        refuses("locate -x", IllegalArgumentException.class, () -> x.locate(0, -FAR - 1, 0));
        refuses("locate y", IllegalArgumentException.class, () -> x.locate(0, 0, FAR + 1));
        refuses("locate -y", IllegalArgumentException.class, () -> x.locate(0, 0, -FAR - 1));
        due("a far corner", x.locate(0, -FAR, FAR), 2);
    }

    private static void locateLines() {
        x = new ShapeRelator();
        make(0, LINES, at(0, 0, 6, 0), at(6, 0, 6, 6), at(6, 0, 12, 0), at(20, 20), at(30, 30, 40, 30, 30, 30),
                at(50, 50, 50, 50), at(), at(0, 10, 0, 10, 4, 10, 4, 10));
        due("an end", x.locate(0, 0, 0), 1);
        due("an end three times", x.locate(0, 6, 0), 1);
        due("between", x.locate(0, 3, 0), 0);
        due("beside", x.locate(0, 3, 1), 2);
        due("on the line behind the end", x.locate(0, -1, 0), 2);
        due("a part of one point", x.locate(0, 20, 20), 2);
        due("both ends of a part", x.locate(0, 30, 30), 0);
        due("a part of like points", x.locate(0, 50, 50), 2);
        due("an end of like points", x.locate(0, 4, 10), 1);
        x.part(0);
        x.point(0, 6, 0);
        due("one point is both ends", x.locate(0, 6, 0), 1);
        x.part(0);
        x.point(0, 6, 0);
        x.point(0, 6, -5);
        due("an end an even number of times", x.locate(0, 6, 0), 0);
        x.part(0);
        x.point(0, 3, 0);
        x.point(0, 3, 9);
        due("an end amid another segment", x.locate(0, 3, 0), 1);
    }

    private static void locateArea() {
        x = new ShapeRelator();
        make(0, AREA, square(0, 0, 10), square(2, 2, 6), square(20, 0, 4), square(22, 0, 4));
        due("inside", x.locate(0, 1, 5), 0);
        due("in the hole", x.locate(0, 5, 5), 2);
        due("inside on a level with corners", x.locate(0, 1, 2), 0);
        due("inside on a level with other corners", x.locate(0, 1, 8), 0);
        due("on the rim of the hole", x.locate(0, 2, 5), 1);
        due("on the closing segment", x.locate(0, 0, 5), 1);
        due("a corner", x.locate(0, 10, 10), 1);
        due("on a level with the top", x.locate(0, -1, 10), 2);
        due("on a level with the bottom", x.locate(0, -1, 0), 2);
        due("in two squares", x.locate(0, 23, 1), 2);
        due("in one of them", x.locate(0, 21, 1), 0);
        make(0, AREA, at(0, 0, 4, 0), at(9, 9), at(7, 7, 7, 7, 7, 7));
        due("of two points, between", x.locate(0, 2, 0), 1);
        due("of one point", x.locate(0, 9, 9), 2);
        due("of like points", x.locate(0, 7, 7), 2);
        make(0, AREA, at(-FAR, -FAR, FAR, -FAR + 1, FAR - 1, FAR));
        due("far: below", x.locate(0, 0, -FAR), 2);
        due("far: just inside", x.locate(0, 0, -FAR + 1), 0);
        due("far: a corner", x.locate(0, -FAR, -FAR), 1);
        due("far: on no rim", x.locate(0, FAR - 1, FAR - 1), 0);
        due("far: outside at the right", x.locate(0, FAR, FAR), 2);
    }

    private static void areasAndAreas() {
        x = new ShapeRelator();
        make(0, AREA, square(0, 0, 10));
        make(1, AREA, square(5, 5, 10));
        matrixIs("overlapping", "212101212");
        due("overlapping: relate", x.relate(), 244155);
        questionsAre("overlapping", "6");
        make(1, AREA, square(2, 2, 4));
        matrixIs("containing", "212FF1FF2");
        questionsAre("containing", "58");
        make(1, AREA, square(0, 0, 4));
        matrixIs("containing at the rim", "212F11FF2");
        questionsAre("containing at the rim", "58");
        make(1, AREA, square(-1, -1, 12));
        matrixIs("within", "2FF1FF212");
        questionsAre("within", "47");
        make(1, AREA, square(10, 0, 10));
        matrixIs("touching along a side", "FF2F11212");
        questionsAre("touching along a side", "2");
        make(1, AREA, square(10, 10, 3));
        matrixIs("touching at a corner", "FF2F01212");
        questionsAre("touching at a corner", "2");
        make(1, AREA, square(20, 0, 3));
        matrixIs("apart", "FF2FF1212");
        questionsAre("apart", "1");
        make(1, AREA, at(10, 10, 0, 10, 0, 0, 10, 0, 10, 5));
        matrixIs("equal", "2FFF1FFF2");
        questionsAre("equal", "04578");
        make(1, AREA, square(0, 0, 10), square(2, 2, 6));
        matrixIs("one with a hole", "212F1FFF2");
        questionsAre("one with a hole", "58");
        make(0, AREA, square(2, 2, 6));
        matrixIs("in the hole", "FF2F1F212");
        questionsAre("in the hole", "2");
        make(0, AREA, square(0, 0, 10));
        make(1, AREA, at(5, 5, 15, 5), at(-5, 5, 5, 5));
        matrixIs("an area of rims alone", "F12F01F12");
        questionsAre("an area of rims alone", "2");
        make(1, AREA, square(10, 2, 3), square(0, 0, 10));
        make(0, AREA, square(10, 2, 3));
        matrixIs("one square of two", "2FFF1F212");
        make(0, AREA, at(0, 0, 4, 0));
        make(1, AREA, at(4, 0, 9, 0));
        matrixIs("rims end to end", "FFFF01F12");
        questionsAre("rims end to end", "02");
        make(0, AREA, at(0, 0, 3, 3));
        make(1, AREA, at(20, 0, 3, 40));
        questionsAre("no insides at all", "01");
        due("no insides: dimension", x.dimension(0), 1);
    }

    private static void linesAndOthers() {
        x = new ShapeRelator();
        make(0, LINES, at(0, 0, 10, 10));
        make(1, LINES, at(0, 10, 10, 0));
        matrixIs("crossing", "0F1FF0102");
        questionsAre("crossing", "3");
        make(1, LINES, at(10, 10, 20, 0));
        matrixIs("end to end", "FF1F00102");
        questionsAre("end to end", "2");
        make(1, LINES, at(5, 5, 20, 5));
        matrixIs("an end amid the other", "F01FF0102");
        questionsAre("an end amid the other", "2");
        make(1, LINES, at(5, 5, 20, 20));
        matrixIs("along each other", "1010F0102");
        questionsAre("along each other", "6");
        make(1, LINES, at(10, 10, 3, 3, 0, 0));
        matrixIs("equal lines", "1FFF0FFF2");
        questionsAre("equal lines", "04578");
        make(1, LINES, at(2, 2, 8, 8));
        matrixIs("a longer line", "101FF0FF2");
        questionsAre("a longer line", "58");
        make(1, LINES, at(20, 0, 30, 0));
        questionsAre("lines apart", "1");
        make(1, LINES, at(10, 10, 12, 12, 10, 10));
        matrixIs("straight on, there and back", "FF10F01F2");
        questionsAre("straight on, there and back", "2");
        make(0, AREA, square(0, 0, 10));
        make(1, LINES, at(2, 0, 8, 0));
        matrixIs("an area and a line on its rim", "FF2101FF2");
        questionsAre("an area and a line on its rim", "28");
        make(0, LINES, at(-5, 5, 15, 5));
        make(1, AREA, square(0, 0, 10));
        matrixIs("a line through an area", "101FF0212");
        questionsAre("a line through an area", "3");
        make(0, LINES, at(2, 0, 8, 0));
        matrixIs("a line on a rim", "F1FF0F212");
        questionsAre("a line on a rim", "27");
        make(0, LINES, at(0, 5, 5, 5));
        matrixIs("a line in an area", "1FF00F212");
        questionsAre("a line in an area", "47");
        make(0, AREA, square(0, 0, 10));
        make(1, LINES, at(-5, 5, 15, 5));
        matrixIs("an area and a line through it", "1F20F1102");
        questionsAre("an area and a line through it", "3");
    }

    private static void pointsAndOthers() {
        x = new ShapeRelator();
        make(0, POINTS, at(5, 5, 0, 0, 50, 50));
        make(1, AREA, square(0, 0, 10));
        matrixIs("points and an area", "000FFF212");
        questionsAre("points and an area", "3");
        make(0, POINTS, at(5, 5, 0, 0));
        questionsAre("points in an area", "47");
        make(0, POINTS, at(0, 5, 0, 0));
        matrixIs("points on a rim", "F0FFFF212");
        questionsAre("points on a rim", "27");
        make(1, LINES, at(0, 0, 0, 5));
        matrixIs("points at both ends", "F0FFFF1F2");
        questionsAre("points at both ends", "27");
        make(1, LINES, at(0, 0, 0, 9));
        matrixIs("points at one end and amid", "00FFFF102");
        questionsAre("points at one end and amid", "47");
        make(1, POINTS, at(0, 0), at(0, 5, 0, 5));
        matrixIs("equal points", "0FFFFFFF2");
        questionsAre("equal points", "04578");
        make(1, POINTS, at(0, 0, 1, 1));
        matrixIs("overlapping points", "0F0FFF0F2");
        questionsAre("overlapping points", "6");
        make(1, POINTS, at(1, 1));
        questionsAre("points apart", "1");
        make(0, AREA, square(0, 0, 10));
        make(1, POINTS, at(5, 5, 20, 20));
        matrixIs("an area and points", "0F2FF10F2");
        questionsAre("an area and points", "3");
        make(1, POINTS);
        matrixIs("an area and nothing", "FF2FF1FF2");
        questionsAre("an area and nothing", "1");
    }

    private static void farAndNear() {
        x = new ShapeRelator();
        make(0, AREA, at(-FAR, -FAR, FAR, FAR - 1, FAR, FAR));
        make(1, LINES, at(-FAR, -FAR, FAR, FAR));
        matrixIs("far: the diagonal is a rim", "FF2101FF2");
        make(1, LINES, at(-FAR, -FAR + 1, FAR, FAR));
        matrixIs("far: beside the rim", "FF2F01102");
        make(1, POINTS, at(0, 0, FAR - 1, FAR - 1, 1, 0));
        matrixIs("far: points", "FF20F10F2");
        make(0, LINES, at(-FAR, 0, FAR, 1), at(-FAR, 1, FAR, 0));
        make(1, LINES, at(0, -FAR, 0, FAR), at(1, -FAR, -1, FAR));
        matrixIs("far: crossings next to each other", "0F1FF0102");
        // In each of these two cuts lie nearer to each other than rounded numbers tell.
        make(0, AREA, at(-499999997, 499999998, -499999999, 0, -499999998, 1));
        make(1, LINES, at(0, 2, -499999999, 1));
        matrixIs("far: a line through a thin corner", "1F20F1102");
        make(0, AREA, at(2, -499999997, -FAR, -FAR, -499999996, -499999998));
        make(1, AREA, at(-FAR, -FAR, 499999997, 499999996, 499999998, -1));
        matrixIs("far: rims along each other", "FF2F11212");
        make(0, AREA, at(-FAR, 499999998, 499999998, -499999998, FAR, -499999999));
        make(1, AREA, at(-499999999, -499999999, -499999999, 499999999, -499999999, 499999998));
        due("far: a thin area and a flat one", x.relate(), 45451);
        make(0, AREA, at(-65087901, 53761250, -426755693, 191893326, -84895702, -155247035));
        make(1, LINES, at(-417444456, 231404518, -31028952, -247637343));
        matrixIs("far: a line through an area", "1F20F1102");
    }

    private static void entriesAndNumbers() {
        x = new ShapeRelator();
        int[] wrongNumbers = {-1, 3, Integer.MIN_VALUE, Integer.MAX_VALUE};
        for (int number : wrongNumbers) {
            refuses("entry(" + number + ", 0)", IndexOutOfBoundsException.class, () -> x.entry(number, 0));
            refuses("entry(0, " + number + ")", IndexOutOfBoundsException.class, () -> x.entry(0, number));
            refuses("count(0, " + number + ")", IndexOutOfBoundsException.class, () -> x.count(0, number));
            refuses("dimension(" + number + ")", IndexOutOfBoundsException.class, () -> x.dimension(number));
            refuses("count(" + number + ", 0)", IndexOutOfBoundsException.class, () -> x.count(number, 0));
        }
        refuses("dimension(2)", IndexOutOfBoundsException.class, () -> x.dimension(2));
        refuses("count(2, 0)", IndexOutOfBoundsException.class, () -> x.count(2, 0));
        refuses("is(-1)", IndexOutOfBoundsException.class, () -> x.is(-1) ? 1 : 0);
        refuses("is(9)", IndexOutOfBoundsException.class, () -> x.is(9) ? 1 : 0);
        answers("is(8)", 0, () -> x.is(8) ? 1 : 0);
    }

    private static void dimensions() {
        x = new ShapeRelator();
        for (int shape = 0; shape < 2; shape++) {
            make(shape, POINTS, at(1, 1));
            due("dimension of points", x.dimension(shape), 0);
            make(shape, POINTS, at());
            due("dimension of no points", x.dimension(shape), -1);
            make(shape, LINES, at(0, 0, 1, 1));
            due("dimension of lines", x.dimension(shape), 1);
            make(shape, LINES, at(0, 0), at(3, 3, 3, 3));
            due("dimension of lines without segments", x.dimension(shape), -1);
            make(shape, AREA, square(0, 0, 1));
            due("dimension of an area", x.dimension(shape), 2);
            make(shape, AREA, at(0, 0, 5, 0, 9, 0));
            due("dimension of a flat area", x.dimension(shape), 1);
            make(shape, AREA, square(0, 0, 1), square(0, 0, 1));
            due("dimension of an area taken twice", x.dimension(shape), 1);
            make(shape, AREA, at(0, 0));
            due("dimension of an area of one point", x.dimension(shape), -1);
        }
    }

    private static void counts() {
        x = new ShapeRelator();
        make(0, LINES, at(1, 1, 2, 2), at(), at(3, 3));
        make(1, AREA, at(1, 1));
        due("kind 0", x.count(0, 0), LINES);
        due("parts 0", x.count(0, 1), 3);
        due("points 0", x.count(0, 2), 3);
        due("kind 1", x.count(1, 0), AREA);
        due("parts 1", x.count(1, 1), 1);
        due("points 1", x.count(1, 2), 1);
    }

    /** What README.md shows must be so. */
    private static void readmeExample() {
        x = new ShapeRelator();
        make(0, AREA, at(0, 0, 10, 0, 10, 10));
        make(1, LINES, at(-5, 5, 25, 5));
        due("README: locate", x.locate(0, 9, 1), 0);
        due("README: relate", x.relate(), 144551);
        due("README: entry", x.entry(0, 0), 1);
        due("README: entry of nothing", x.entry(0, 1), ShapeRelator.NONE);
        due("README: is", x.is(3), true);
        due("README: dimension", x.dimension(0), 2);
        due("README: count", x.count(1, 2), 2);
        due("README: shape", x.shape(1, POINTS), 2);
    }

    /** Answers kept from before a change would show here. */
    private static void changesAreSeen() {
        x = new ShapeRelator();
        make(0, AREA, square(0, 0, 10));
        make(1, LINES, at(1, 1, 2, 2));
        questionsAre("a line in an area", "58");
        x.point(1, 20, 20);
        questionsAre("the line grown out of it", "3");
        x.part(1);
        questionsAre("an empty part more", "3");
        due("locate before", x.locate(1, 30, 30), 2);
        x.point(1, 30, 30);
        x.point(1, 40, 30);
        due("locate after", x.locate(1, 30, 30), 1);
        x.shape(0, AREA);
        questionsAre("the area gone", "1");
    }

    public static void main(String[] args) {
        newObject();
        shapes();
        parts();
        points();
        locatePoints();
        locateLines();
        locateArea();
        areasAndAreas();
        linesAndOthers();
        pointsAndOthers();
        farAndNear();
        entriesAndNumbers();
        dimensions();
        counts();
        readmeExample();
        changesAreSeen();
        System.out.println(wrong == 0 ? "all answers are as due" : wrong + " answers are not as due");
        if (wrong != 0) {
            System.exit(1);
        }
    }
}
