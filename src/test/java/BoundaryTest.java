import java.util.ArrayList;
import java.util.List;

/**
 * Each sentence of the document that names a boundary case has a run of its own here, on a new
 * object. A run is told in rows that are parted by semicolons:
 *
 * <pre>
 *   point 0 3 4 = 1            a call, its arguments and the answer that is due
 *   part 2 = IndexOutOfBounds  a call that is due to throw (the name without "Exception")
 *   make 0 2: 0 0 9 0 / 5 5    a shape anew, of a kind, with its parts
 *   matrix = 212101212         all entries in order, F for none; relate must tell the same
 *   yes = 47                   the questions (is) that are answered with yes; all others with no
 * </pre>
 *
 * After each call that throws, all that can be asked must be answered as before it.
 */
public final class BoundaryTest {
    private static final String S = "0 0 10 0 10 10 0 10";
    private static final String SPURRED = "0 0 10 0 10 5 20 5 10 5 10 10 0 10";

    private static int wrong = 0;
    private static int runs = 0;
    private static ShapeRelator x;
    private static String sentence;

    private static void due(String row, String got, String want) {
        if (!got.equals(want)) {
            wrong++;
            System.out.println(sentence + " | " + row + ": answered " + got + ", due is " + want);
        }
    }

    private static void run(String name, String... texts) {
        sentence = name;
        x = new ShapeRelator();
        runs++;
        for (String row : String.join(";", texts).split(";")) {
            if (!row.isBlank()) {
                runRow(row.trim());
            }
        }
    }

    private static void runRow(String row) {
        if (row.startsWith("make ")) {
            make(row);
            return;
        }
        int sign = row.indexOf(" = ");
        String call = row.substring(0, sign).trim();
        String want = row.substring(sign + 3).trim();
        if (call.equals("matrix")) {
            due(row, matrix(), want);
            due(row + " (relate)", Integer.toString(x.relate()), Integer.toString(number(want)));
        } else if (call.equals("yes")) {
            due(row, yes(), want);
        } else {
            runCall(row, call, want);
        }
    }

    private static void runCall(String row, String call, String want) {
        boolean refused = Character.isLetter(want.charAt(0)) && !want.equals("yes") && !want.equals("no");
        String before = refused ? everything() : "";
        due(row, answer(call), want);
        if (refused) {
            due(row + " (what stands after it)", everything(), before);
        }
    }

    private static String answer(String call) {
        String[] words = call.split(" +");
        int[] a = new int[words.length - 1];
        for (int i = 0; i < a.length; i++) {
            a[i] = Integer.parseInt(words[i + 1]);
        }
        try {
            switch (words[0]) {
                case "shape": return "" + x.shape(a[0], a[1]);
                case "part": return "" + x.part(a[0]);
                case "point": return "" + x.point(a[0], a[1], a[2]);
                case "locate": return "" + x.locate(a[0], a[1], a[2]);
                case "relate": return "" + x.relate();
                case "entry": return "" + x.entry(a[0], a[1]);
                case "is": return x.is(a[0]) ? "yes" : "no";
                case "dimension": return "" + x.dimension(a[0]);
                case "count": return "" + x.count(a[0], a[1]);
                default: return "no such call";
            }
        } catch (RuntimeException e) {
            return e.getClass().getSimpleName().replace("Exception", "");
        }
    }

    private static void make(String row) {
        int colon = row.indexOf(':');
        String[] head = row.substring(0, colon).split(" +");
        int shape = Integer.parseInt(head[1]);
        x.shape(shape, Integer.parseInt(head[2]));
        String body = row.substring(colon + 1).trim();
        if (body.isEmpty()) {
            return;
        }
        int points = 0;
        String[] parts = body.split("/", -1);
        for (int part = 0; part < parts.length; part++) {
            due(row + " (part)", "" + x.part(shape), "" + (part + 1));
            List<Integer> places = numbers(parts[part]);
            for (int i = 0; i < places.size(); i += 2) {
                points++;
                due(row + " (point)", "" + x.point(shape, places.get(i), places.get(i + 1)), "" + points);
            }
        }
    }

    private static List<Integer> numbers(String text) {
        List<Integer> found = new ArrayList<>();
        for (String word : text.trim().split(" +")) {
            if (!word.isEmpty()) {
                found.add(Integer.parseInt(word));
            }
        }
        return found;
    }

    private static String matrix() {
        StringBuilder text = new StringBuilder();
        for (int own = 0; own < 3; own++) {
            for (int other = 0; other < 3; other++) {
                int entry = x.entry(own, other);
                text.append(entry == -1 ? "F" : "" + entry);
            }
        }
        return text.toString();
    }

    private static int number(String matrix) {
        int number = 0;
        for (char c : matrix.toCharArray()) {
            number = 4 * number + (c == 'F' ? -1 : c - '0') + 1;
        }
        return number;
    }

    private static String yes() {
        StringBuilder text = new StringBuilder();
        for (int what = 0; what <= 8; what++) {
            text.append(x.is(what) ? "" + what : "");
        }
        return text.toString();
    }

    private static String everything() {
        StringBuilder text = new StringBuilder(matrix() + " " + x.relate() + " " + yes());
        for (int shape = 0; shape < 2; shape++) {
            text.append(" ").append(x.dimension(shape));
            for (int what = 0; what < 3; what++) {
                text.append(" ").append(x.count(shape, what));
            }
            for (int at = -1; at <= 11; at++) {
                text.append(x.locate(shape, at, at)).append(x.locate(shape, at, 0));
            }
        }
        return text.toString();
    }

    private static void whatItIs() {
        sentence = "An object is used for at most 512 calls (the last of them)";
        String[] last = {"shape 0 1 = 509", "part 0 = 2", "point 0 900 900 = 510", "locate 0 0 -7 = 1",
            "locate 0 508 -7 = 1", "relate = " + number("FF1FF0FF2"), "entry 1 2 = 0", "is 1 = yes", "dimension 0 = 1",
            "count 0 2 = 509", "point 0 500000001 0 = IllegalArgument", "part 2 = IndexOutOfBounds"};
        for (String row : last) {
            x = new ShapeRelator();
            x.shape(0, 2);
            x.part(0);
            for (int i = 0; i < 509; i++) {
                x.point(0, i, i % 2 == 0 ? -7 : 7);
            }
            int sign = row.indexOf(" = ");
            due(row, answer(row.substring(0, sign)), row.substring(sign + 3));
            runs++;
        }
        sentence = "An object is used for at most 512 calls (all but the last of them refused)";
        x = new ShapeRelator();
        for (int i = 0; i < 511; i++) {
            due("point without a part", answer("point 0 0 0"), "IllegalState");
        }
        due("relate", answer("relate"), "3");
        runs++;
    }

    private static void shapesAndPlaces() {
        run("Terms: both POINTS with none at first",
            "count 0 0 = 1; count 1 0 = 1; count 0 1 = 0; count 1 1 = 0; count 0 2 = 0; count 1 2 = 0",
            "locate 0 0 0 = 2; locate 1 0 0 = 2; dimension 0 = -1; dimension 1 = -1");
        run("Terms: two shapes, 0 and 1, of their own",
            "make 0 2: 0 0 9 0; make 1 3: " + S + "; count 0 2 = 2; count 1 2 = 4; shape 0 1 = 2; count 1 0 = 3",
            "count 1 1 = 1; count 1 2 = 4; shape 1 1 = 4; count 0 0 = 1");
        run("Terms: x to 500000000", "part 0 = 1; point 0 500000000 0 = 1; locate 0 500000000 0 = 0",
            "point 0 500000001 0 = IllegalArgument; locate 0 500000001 0 = IllegalArgument",
            "point 0 2147483647 0 = IllegalArgument; locate 0 2147483647 0 = IllegalArgument");
        run("Terms: x from -500000000", "part 0 = 1; point 0 -500000000 0 = 1; locate 0 -500000000 0 = 0",
            "point 0 -500000001 0 = IllegalArgument; locate 0 -500000001 0 = IllegalArgument",
            "point 0 -2147483648 0 = IllegalArgument; locate 0 -2147483648 0 = IllegalArgument");
        run("Terms: y to 500000000", "part 1 = 1; point 1 0 500000000 = 1; locate 1 0 500000000 = 0",
            "point 1 0 500000001 = IllegalArgument; locate 1 0 500000001 = IllegalArgument",
            "point 1 0 2147483647 = IllegalArgument; locate 1 0 2147483647 = IllegalArgument");
        run("Terms: y from -500000000", "part 1 = 1; point 1 0 -500000000 = 1; locate 1 0 -500000000 = 0",
            "point 1 0 -500000001 = IllegalArgument; locate 1 0 -500000001 = IllegalArgument",
            "point 1 0 -2147483648 = IllegalArgument; locate 1 0 -2147483648 = IllegalArgument");
    }

    private static void segments() {
        run("Terms: segments of LINES from each point to the next one, not from the last to the first",
            "make 0 2: 0 0 10 0 10 10; locate 0 5 0 = 0; locate 0 10 5 = 0; locate 0 5 5 = 2; locate 0 10 0 = 0");
        run("Terms: of a part, so not from one part to the next",
            "make 0 2: 0 0 10 0 / 20 0 30 0; locate 0 15 0 = 2; locate 0 10 0 = 1; locate 0 20 0 = 1",
            "make 0 3: 0 0 10 0 10 10 / 20 0 30 0 30 10; locate 0 15 5 = 2; locate 0 15 0 = 2; locate 0 20 10 = 2");
        run("Terms: of an AREA also from the last to the first one",
            "make 0 3: 0 0 10 0 10 10; locate 0 5 5 = 1; locate 0 8 2 = 0; locate 0 2 8 = 2");
        run("Terms: of an AREA from the last one so far",
            "shape 0 3 = 0; part 0 = 1; point 0 0 0 = 1; dimension 0 = -1; point 0 10 0 = 2; dimension 0 = 1",
            "locate 0 5 0 = 1; point 0 10 10 = 3; dimension 0 = 2; locate 0 5 5 = 1; point 0 0 10 = 4",
            "locate 0 5 5 = 0; locate 0 0 5 = 1");
        run("Terms: of an AREA of two points there and back, so nothing is inside",
            "make 0 3: 0 0 10 0; locate 0 5 0 = 1; locate 0 0 0 = 1; locate 0 10 0 = 1; locate 0 11 0 = 2",
            "locate 0 5 1 = 2; locate 0 -5 0 = 2");
        run("Terms: two like points make no segment (LINES)",
            "make 0 2: 5 5 5 5; locate 0 5 5 = 2; dimension 0 = -1; make 0 2: 5 5 5 5 9 5 9 5; locate 0 5 5 = 1",
            "locate 0 7 5 = 0; locate 0 9 5 = 1; dimension 0 = 1; make 0 2: 0 0 5 5 5 5 9 5; locate 0 5 5 = 0");
        run("Terms: two like points make no segment (AREA)",
            "make 0 3: 5 5; locate 0 5 5 = 2; dimension 0 = -1; make 0 3: 5 5 5 5 5 5; locate 0 5 5 = 2",
            "dimension 0 = -1; make 0 3: 0 0 10 0 10 0 10 10 0 0; locate 0 5 5 = 1; locate 0 8 2 = 0",
            "locate 0 10 0 = 1");
        run("Terms: like points that do not follow each other make segments",
            "make 0 2: 5 5 9 5 5 5; locate 0 7 5 = 0; locate 0 5 5 = 0; locate 0 9 5 = 0; dimension 0 = 1");
    }

    private static void placesOfPointsAndLines() {
        run("Terms: POINTS: each of them is inside", "make 0 1: 3 3 7 3 / 3 9; locate 0 3 3 = 0; locate 0 7 3 = 0",
            "locate 0 3 9 = 0; locate 0 5 3 = 2; locate 0 3 6 = 2; locate 0 9 3 = 2");
        run("Terms: POINTS: there is no rim, also where one stands twice or is a part of its own",
            "make 0 1: 3 3 3 3 / 3 3 / / 7 7; locate 0 3 3 = 0; locate 0 7 7 = 0; make 1 1: 7 7 3 3",
            "matrix = 0FFFFFFF2");
        run("Terms: LINES: the first or the last once", "make 0 2: 0 0 10 0; locate 0 0 0 = 1; locate 0 10 0 = 1",
            "locate 0 1 0 = 0; locate 0 9 0 = 0; locate 0 -1 0 = 2; locate 0 11 0 = 2");
        run("Terms: LINES: twice is even", "make 0 2: 0 0 10 0 / 10 0 20 0; locate 0 10 0 = 0; locate 0 20 0 = 1");
        run("Terms: LINES: twice is even, also of one part", "make 0 2: " + S + " 0 0; locate 0 0 0 = 0",
            "locate 0 5 0 = 0; locate 0 5 5 = 2; make 1 2: " + S + " 0 0; matrix = 1FFFFFFF2");
        run("Terms: LINES: three times is odd",
            "make 0 2: 0 0 10 0 / 10 0 20 0 / 10 9 10 0; locate 0 10 0 = 1; make 0 2: 0 0 9 0 0 0 / 0 0 0 9",
            "locate 0 0 0 = 1");
        run("Terms: LINES: four times is even",
            "make 0 2: 0 0 10 0 / 10 0 20 0 / 10 9 10 0 / 10 -9 10 0; locate 0 10 0 = 0; locate 0 10 9 = 1");
        run("Terms: LINES: like parts together", "make 0 2: 0 0 10 0 / 0 0 10 0; locate 0 0 0 = 0; locate 0 10 0 = 0",
            "make 1 2: 0 0 10 0; matrix = 10FFFFFF2; yes = 04578");
        run("Terms: LINES: a part of one point has it as both",
            "make 0 2: 5 5; locate 0 5 5 = 2; dimension 0 = -1; make 0 2: 0 0 10 0 / 10 0; locate 0 10 0 = 1",
            "make 0 2: 0 0 10 0 / 5 0; locate 0 5 0 = 0; make 0 2: 0 0 10 0 / 10 0 20 0 / 10 0; locate 0 10 0 = 0");
        run("Terms: LINES: a part without points has neither", "make 0 2: / 0 0 10 0 / / ; locate 0 0 0 = 1",
            "locate 0 10 0 = 1; count 0 1 = 4; dimension 0 = 1");
        run("Terms: LINES: the first or the last, not those between",
            "make 0 2: 0 0 5 0 10 0; locate 0 5 0 = 0; make 0 2: 0 0 9 0 0 0 0 9; locate 0 0 0 = 1; locate 0 9 0 = 0",
            "make 0 2: 1 0 9 0 5 5 9 0 5 -5; locate 0 9 0 = 0");
        run("Terms: LINES: on the rim, also where it lies amid a segment",
            "make 0 2: 0 0 10 0 / 5 0 5 9; locate 0 5 0 = 1; make 0 2: 0 0 10 0 / 2 0 6 0; locate 0 2 0 = 1",
            "locate 0 6 0 = 1; locate 0 4 0 = 0; locate 0 8 0 = 0");
        run("Terms: LINES: inside are all others on segments", "make 0 2: 0 0 10 10 / 0 10 10 0; locate 0 5 5 = 0",
            "locate 0 4 5 = 2; make 0 2: 0 0 3 1; locate 0 1 0 = 2; locate 0 2 1 = 2");
    }

    private static void placesOfAreas() {
        run("Terms: AREA: on the rim are all places on segments, also where areas of it meet",
            "make 0 3: " + S + " / 10 0 20 0 20 10 10 10; locate 0 10 5 = 1; locate 0 9 5 = 0; locate 0 11 5 = 0",
            "make 0 3: " + SPURRED + "; locate 0 15 5 = 1; locate 0 20 5 = 1; locate 0 21 5 = 2; locate 0 9 5 = 0");
        run("Terms: AREA: an odd number of times", "make 0 3: " + S + " / 2 2 8 2 8 8 2 8 / 4 4 6 4 6 6 4 6",
            "locate 0 1 5 = 0; locate 0 3 5 = 2; locate 0 5 5 = 0; locate 0 7 5 = 2; locate 0 9 5 = 0",
            "locate 0 11 5 = 2", "locate 0 -1 5 = 2");
        run("Terms: AREA: an even number of times where a part stands twice",
            "make 0 3: " + S + " / " + S + "; locate 0 5 5 = 2; locate 0 0 5 = 1; dimension 0 = 1");
        run("Terms: AREA: just one of the ends above (corners at the left and the right)",
            "make 0 3: 0 0 10 -10 20 0 10 10; locate 0 -5 0 = 2; locate 0 5 0 = 0; locate 0 25 0 = 2",
            "locate 0 0 0 = 1; locate 0 20 0 = 1");
        run("Terms: AREA: just one of the ends above (the lowest and the highest corner)",
            "make 0 3: 0 0 10 -10 20 0 10 10; locate 0 -5 10 = 2; locate 0 -5 -10 = 2; locate 0 10 9 = 0",
            "locate 0 10 -9 = 0; locate 0 10 10 = 1; locate 0 10 11 = 2");
        run("Terms: AREA: a level segment is not crossed",
            "make 0 3: 0 0 20 0 20 10 15 10 15 5 5 5 5 10 0 10; locate 0 2 5 = 0; locate 0 17 5 = 0; locate 0 -1 5 = 2",
            "locate 0 10 5 = 1; locate 0 10 6 = 2; locate 0 -1 0 = 2; locate 0 -1 10 = 2; locate 0 10 10 = 2");
        run("Terms: AREA: a level segment between a lower and a higher one",
            "make 0 3: 0 0 10 0 10 5 15 5 15 10 0 10; locate 0 5 5 = 0; locate 0 -1 5 = 2; locate 0 12 5 = 1",
            "locate 0 12 7 = 0; locate 0 12 3 = 2");
        run("Terms: AREA: and it lies to the right there",
            "make 0 3: 0 0 30 30 30 0; locate 0 20 19 = 0; locate 0 20 20 = 1; locate 0 20 21 = 2; locate 0 31 15 = 2",
            "make 0 3: 0 30 30 0 30 30; locate 0 20 9 = 2; locate 0 20 10 = 1; locate 0 20 11 = 0");
        run("Terms: AREA: to the right by next to nothing, far out",
            "make 0 3: -500000000 -500000000 500000000 499999999 500000000 -500000000; locate 0 0 0 = 2",
            "locate 0 1 0 = 0; locate 0 -1 -1 = 2; locate 0 -1 -2 = 0; locate 0 499999999 499999998 = 0",
            "locate 0 499999999 499999999 = 2; locate 0 -499999999 -499999999 = 2; locate 0 -499999998 -499999999 = 0");
        run("Terms: each place in the plane, also those of no whole numbers",
            "make 0 3: 0 0 1 0 0 1; dimension 0 = 2; make 1 3: 1 1 1 0 0 1; matrix = FF2F11212",
            "make 1 3: 0 0 1 1 0 1; matrix = 212111212");
        run("Terms: each place in the plane, also those beyond all that have points",
            "make 0 3: -500000000 -500000000 500000000 -500000000 500000000 500000000 -500000000 500000000",
            "make 1 3: 500000000 500000000 -500000000 500000000 -500000000 -500000000 500000000 -500000000",
            "matrix = 2FFF1FFF2; locate 0 500000000 0 = 1; locate 0 499999999 499999999 = 0");
    }

    private static void matrices() {
        run("Terms: -1 there is none", "matrix = FFFFFFFF2; make 0 2: 5 5; make 1 3: 5 5; matrix = FFFFFFFF2");
        run("Terms: 0 single ones", "make 0 2: 0 0 10 0; make 1 2: 1 -1 3 1 5 -1 7 1 9 -1; matrix = 0F1FF0102",
            "make 0 2: 0 0 1 1; make 1 2: 0 1 1 0; matrix = 0F1FF0102");
        run("Terms: 1 pieces of lines (and perhaps single ones)",
            "make 0 2: 0 0 10 0; make 1 2: 5 0 15 0 / 2 -5 2 5; matrix = 1010F0102; yes = 6",
            "make 0 3: " + S + "; make 1 3: 10 2 12 2 12 4 10 4 / 10 7 15 6 15 8; matrix = FF2F11212",
            "make 1 3: 10 7 15 6 15 8; matrix = FF2F01212");
        run("Terms: 2 what has an area (and perhaps others)",
            "make 0 3: " + SPURRED + "; make 1 3: 5 5 15 5 15 15 5 15; entry 0 0 = 2; entry 2 2 = 2; entry 2 0 = 2",
            "make 0 3: " + S + "; make 1 1: 5 5; entry 0 2 = 2; entry 0 0 = 0");
        run("Terms: pieces that only meet at an end are single places",
            "make 0 2: 0 0 5 0; make 1 2: 5 0 10 0; matrix = FF1F00102; make 0 3: 0 0 5 0; make 1 3: 5 0 10 0",
            "matrix = FFFF01F12");
        run("Terms: single places by POINTS alone", "make 0 1: 1 1 2 2 3 3; make 1 1: 2 2 3 3 4 4; matrix = 0F0FFF0F2");
        run("Terms: what begins or ends on a segment of the other shape",
            "make 0 2: 0 5 10 5; make 1 3: " + S + "; matrix = 1FFF0F212; yes = 47; make 0 2: 10 5 0 5",
            "matrix = 1FFF0F212",
            "make 0 3: " + S + "; make 1 2: 0 5 10 5; matrix = 1F2F01FF2; make 0 2: 2 0 4 4 6 0; make 1 2: 0 0 10 0",
            "matrix = FF10FF102; make 1 2: 10 0 0 0; matrix = FF10FF102; make 0 3: 0 5 5 2 10 5; make 1 3: " + S,
            "matrix = 2FF10F212");
        run("Terms: what lies straight on behind a segment is not on it",
            "make 0 1: 5 0 25 0; make 1 2: 0 0 10 0 / 20 0 30 0; matrix = 0FFFFF102; make 1 2: 10 0 0 0 / 30 0 20 0",
            "matrix = 0FFFFF102; make 0 1: 0 5 0 25; make 1 2: 0 0 0 10 / 0 20 0 30; matrix = 0FFFFF102",
            "make 1 2: 0 10 0 0 / 0 30 0 20; matrix = 0FFFFF102");
        run("Terms: what lies right before or behind a segment is not on it",
            "make 0 1: -1 0; make 1 2: 0 0 10 0 / -1 -3 -1 3; matrix = 0FFFFF102; make 1 2: 10 0 0 0 / -1 -3 -1 3",
            "matrix = 0FFFFF102; make 0 1: 0 -1; make 1 2: 0 0 0 10 / -3 -1 3 -1; matrix = 0FFFFF102",
            "make 1 2: 0 10 0 0 / -3 -1 3 -1; matrix = 0FFFFF102; make 0 2: 0 0 10 0 / -1 -5 -1 5; make 1 2: -1 0 -1 1",
            "matrix = 101FF0FF2; make 0 2: 10 0 0 0 / -1 -5 -1 5; matrix = 101FF0FF2");
        run("Terms: a hole that the other shape fills",
            "make 0 3: " + S + " / 2 2 8 2 8 8 2 8; make 1 3: 2 2 8 2 8 8 2 8",
            "matrix = FF2F112F2; make 1 3: 2 2 8 2 8 8 2 8 / " + S + "; matrix = 2FFF1FFF2");
        run("Terms: of several exceptions the first one told is thrown",
            "shape 2 0 = IndexOutOfBounds; shape -1 4 = IndexOutOfBounds; point 2 500000001 0 = IndexOutOfBounds",
            "point -1 0 -500000001 = IndexOutOfBounds; point 0 500000001 0 = IllegalArgument",
            "point 0 0 -500000001 = IllegalArgument; locate 2 500000001 0 = IndexOutOfBounds",
            "locate -1 0 500000001 = IndexOutOfBounds; point 2 0 0 = IndexOutOfBounds; point 0 0 0 = IllegalState");
    }

    private static void makingCalls() {
        run("Promise 1: two shapes without points",
            "matrix = FFFFFFFF2; relate = 3; yes = 01; count 0 2 = 0; count 1 2 = 0");
        run("Promise 2: anew, with no parts", "make 0 3: " + S + " / 1 1; shape 0 3 = 5; count 0 0 = 3; count 0 1 = 0",
            "count 0 2 = 0; locate 0 5 5 = 2; locate 0 0 0 = 2; dimension 0 = -1; point 0 1 1 = IllegalState");
        run("Promise 2: how many points it had",
            "shape 0 1 = 0; part 0 = 1; shape 0 2 = 0; part 0 = 1; point 0 1 1 = 1",
            "shape 0 3 = 1; make 1 2: 1 1 1 1 / 1 1; shape 1 1 = 3; shape 1 1 = 0");
        run("Promise 2: no such shape", "shape -1 1 = IndexOutOfBounds; shape 2 1 = IndexOutOfBounds",
            "shape 2147483647 1 = IndexOutOfBounds; shape -2147483648 1 = IndexOutOfBounds");
        run("Promise 2: for all calls", "make 0 3: " + S + "; part -1 = IndexOutOfBounds; part 2 = IndexOutOfBounds",
            "point -1 0 0 = IndexOutOfBounds; point 2 0 0 = IndexOutOfBounds; locate -1 0 0 = IndexOutOfBounds",
            "locate 2 0 0 = IndexOutOfBounds; dimension -1 = IndexOutOfBounds; dimension 2 = IndexOutOfBounds",
            "count -1 0 = IndexOutOfBounds; count 2 0 = IndexOutOfBounds; count 2147483647 0 = IndexOutOfBounds",
            "dimension -2147483648 = IndexOutOfBounds; part 2147483647 = IndexOutOfBounds");
        run("Promise 2: for another kind",
            "make 0 3: " + S + "; shape 0 0 = IllegalArgument; shape 0 4 = IllegalArgument",
            "shape 0 -1 = IllegalArgument; shape 1 2147483647 = IllegalArgument",
            "shape 1 -2147483648 = IllegalArgument", "shape 0 1 = 4; shape 0 2 = 0; shape 0 3 = 0; count 0 0 = 3");
        run("Promise 3: how many it has then",
            "part 0 = 1; part 0 = 2; part 1 = 1; part 0 = 3; count 0 1 = 3; shape 0 1 = 0", "part 0 = 1");
        run("Promise 4: the next point of the part that began last",
            "shape 0 2 = 0; part 0 = 1; point 0 0 0 = 1; point 0 5 0 = 2; part 0 = 2; point 0 9 0 = 3",
            "locate 0 7 0 = 2",
            "locate 0 9 0 = 2; point 0 9 5 = 4; locate 0 9 0 = 1; locate 0 5 0 = 1; part 0 = 3; part 0 = 4",
            "point 0 20 0 = 5; point 0 30 0 = 6; locate 0 25 0 = 0; locate 0 15 3 = 2");
        run("Promise 4: no part has begun", "point 0 0 0 = IllegalState; part 1 = 1; point 0 0 0 = IllegalState",
            "point 1 0 0 = 1; shape 1 1 = 1; point 1 0 0 = IllegalState; part 1 = 1; point 1 0 0 = 1");
        run("Promise 4: x or y is none of these", "part 0 = 1; point 0 500000001 500000001 = IllegalArgument",
            "point 0 -500000001 500000000 = IllegalArgument; point 0 500000000 -500000001 = IllegalArgument",
            "point 0 500000000 -500000000 = 1; point 0 -500000000 500000000 = 2");
        run("Promise 5: x or y is none of these", "locate 0 500000001 500000001 = IllegalArgument",
            "locate 1 -500000001 500000000 = IllegalArgument; locate 1 500000000 -500000001 = IllegalArgument",
            "locate 0 500000000 -500000000 = 2; locate 1 -500000000 500000000 = 2");
    }

    private static void fullShapes() {
        sentence = "Promise 3: when it has 1024";
        x = new ShapeRelator();
        runs++;
        fill("part 0", 1024);
        runRow("part 0 = IllegalState");
        runRow("part 0 = IllegalState");
        runRow("part 2 = IndexOutOfBounds");
        runRow("count 0 1 = 1024");
        runRow("point 0 4 4 = 1");
        runRow("locate 0 4 4 = 0");
        runRow("part 1 = 1");
        runRow("shape 0 2 = 1");
        fill("part 0", 1024);
        runRow("part 0 = IllegalState");

        sentence = "Promise 4: or the shape has 2048 points";
        x = new ShapeRelator();
        runs++;
        runRow("part 0 = 1");
        fill("point 0 3 3", 1000);
        runRow("part 0 = 2");
        for (int i = 1001; i <= 2048; i++) {
            due("point", answer("point 0 7 " + i), "" + i);
        }
        runRow("point 0 8 8 = IllegalState");
        runRow("point 0 500000001 8 = IllegalArgument");
        runRow("locate 0 8 8 = 2");
        runRow("locate 0 7 2048 = 0");
        runRow("part 0 = 3");
        runRow("point 0 8 8 = IllegalState");
        runRow("part 1 = 1");
        runRow("point 1 8 8 = 1");
        runRow("shape 0 1 = 2048");
        runRow("part 0 = 1");
        fill("point 0 5 5", 2048);
        runRow("point 0 5 5 = IllegalState");
        runRow("locate 0 7 2048 = 2");
        runRow("dimension 0 = 0");
    }

    private static void fill(String call, int times) {
        for (int i = 1; i <= times; i++) {
            due(call, answer(call), "" + i);
        }
    }

    private static void numbersAndEntries() {
        run("Promise 6: in the order 0 0, 0 1, .., the first number being that of shape 0",
            "make 0 2: -5 5 15 5; make 1 3: " + S + "; relate = 155771; entry 0 0 = 1; entry 0 1 = 0; entry 0 2 = 1",
            "entry 1 0 = -1; entry 1 1 = -1; entry 1 2 = 0; entry 2 0 = 2; entry 2 1 = 1; entry 2 2 = 2");
        run("Promise 6: with the shapes changed about", "make 1 2: -5 5 15 5; make 0 3: " + S + "; matrix = 1F20F1102");
        run("Promise 6: the least number",
            "relate = 3; shape 0 3 = 0; shape 1 2 = 0; part 0 = 1; part 1 = 1; relate = 3");
        run("Promise 6: asked again, and after each change", "part 0 = 1; part 1 = 1; point 0 1 1 = 1",
            "relate = " + number("FF0FFFFF2") + "; relate = " + number("FF0FFFFF2") + "; point 1 1 1 = 1",
            "relate = " + number("0FFFFFFF2") + "; part 1 = 2; relate = " + number("0FFFFFFF2") + "; point 1 2 2 = 2",
            "relate = " + number("0FFFFF0F2") + "; shape 0 3 = 1; relate = " + number("FFFFFF0F2"));
        run("Promise 7: own is not 0 .. 2", "entry -1 0 = IndexOutOfBounds; entry 3 0 = IndexOutOfBounds",
            "entry 2147483647 2 = IndexOutOfBounds; entry -2147483648 2 = IndexOutOfBounds; entry 2 0 = -1");
        run("Promise 7: other is not 0 .. 2", "entry 0 -1 = IndexOutOfBounds; entry 0 3 = IndexOutOfBounds",
            "entry 2 2147483647 = IndexOutOfBounds; entry 2 -2147483648 = IndexOutOfBounds; entry 0 2 = -1",
            "entry 1 -1 = IndexOutOfBounds; entry 3 -3 = IndexOutOfBounds; entry -1 3 = IndexOutOfBounds");
    }

    private static void equalOrDisjoint() {
        run("Promise 8: EQUAL: both d are -1 (nothing at all)", "yes = 01; shape 0 3 = 0; shape 1 2 = 0; yes = 01");
        run("Promise 8: EQUAL: both d are -1 (rims apart)", "make 0 3: 0 0 3 3; make 1 3: 20 0 3 40",
            "matrix = FFFFF1F12; yes = 01");
        run("Promise 8: EQUAL: both d are -1 (a rim and nothing)",
            "make 0 3: 0 0 3 3; make 1 2: 5 5; matrix = FFFFF1FF2",
            "yes = 01; make 1 3: 0 0 3 3; make 0 1:; matrix = FFFFFFF12; yes = 01");
        run("Promise 8: EQUAL: one d is -1", "make 0 3: " + S + "; matrix = FF2FF1FF2; yes = 1; make 0 1: 1 1",
            "matrix = FF0FFFFF2; yes = 1; make 1 3: " + S + "; make 0 2: 1 1; matrix = FFFFFF212; yes = 1");
        run("Promise 8: EQUAL: 0 0 is there", "make 0 2: 0 0 10 0; make 1 3: 0 0 10 0; matrix = F1FF0FFF2; yes = 278");
        run("Promise 8: EQUAL: 0 0 is there and none of the others",
            "make 0 3: " + S + "; make 1 3: 10 10 0 10 0 5 0 0 10 0",
            "matrix = 2FFF1FFF2; yes = 04578; make 0 1: 2 2 1 1; make 1 1: 1 1 2 2 2 2; yes = 04578",
            "make 0 2: 0 0 9 0; make 1 2: 9 0 4 0 0 0; matrix = 1FFF0FFF2; yes = 04578");
        run("Promise 8: EQUAL: 0 2 is not", "make 0 1: 1 1 2 2; make 1 1: 1 1; matrix = 0F0FFFFF2; yes = 58");
        run("Promise 8: EQUAL: 1 2 is not",
            "make 0 3: " + SPURRED + "; make 1 3: " + S + "; matrix = 2FFF11FF2; yes = 58");
        run("Promise 8: EQUAL: 2 0 is not", "make 0 1: 1 1; make 1 1: 1 1 2 2; matrix = 0FFFFF0F2; yes = 47");
        run("Promise 8: EQUAL: 2 1 is not",
            "make 0 3: " + S + "; make 1 3: " + SPURRED + "; matrix = 2FFF1FF12; yes = 47");
        run("Promise 8: DISJOINT: 0 0 alone is there", "make 0 1: 1 1; make 1 1: 1 1; matrix = 0FFFFFFF2; is 1 = no");
        run("Promise 8: DISJOINT: 0 1 alone is there",
            "make 0 1: 0 5; make 1 3: " + S + "; matrix = F0FFFF212; is 1 = no");
        run("Promise 8: DISJOINT: 1 0 alone is there",
            "make 0 3: " + S + "; make 1 1: 0 5; matrix = FF20F1FF2; is 1 = no");
        run("Promise 8: DISJOINT: 1 1 alone is there", "make 0 3: " + S + "; make 1 3: 10 10 13 10 13 13",
            "matrix = FF2F01212; is 1 = no");
        run("Promise 8: DISJOINT: next to each other", "make 0 3: " + S + "; make 1 3: 11 0 20 0 20 10 11 10",
            "matrix = FF2FF1212; yes = 1");
    }

    private static void touchOrCross() {
        run("Promise 8: TOUCH: 0 1 alone", "make 0 1: 0 5; make 1 3: " + S + "; yes = 27");
        run("Promise 8: TOUCH: 1 0 alone", "make 0 3: " + S + "; make 1 1: 0 5; yes = 28");
        run("Promise 8: TOUCH: 1 1 alone", "make 0 3: " + S + "; make 1 3: 10 10 13 10 13 13; yes = 2");
        run("Promise 8: TOUCH: 0 0 is there", "make 0 1: 0 5 5 5; make 1 3: " + S + "; matrix = 00FFFF212; yes = 47");
        run("Promise 8: CROSS: d of 0 below: 0 0 and 0 2", "make 0 1: 5 5 50 50; make 1 3: " + S,
            "matrix = 0F0FFF212; yes = 3; make 0 2: -5 5 15 5; matrix = 101FF0212; yes = 3; make 0 1: 5 0 5 9",
            "make 1 2: 0 0 10 0; matrix = 0F0FFF102; yes = 3");
        run("Promise 8: CROSS: d of 0 below: 0 2 is not there", "make 0 1: 5 5; make 1 3: " + S,
            "matrix = 0FFFFF212; yes = 47; make 1 2: 0 5 10 5; matrix = 0FFFFF102; yes = 47");
        run("Promise 8: CROSS: d of 0 below: 0 0 is not there", "make 0 1: 0 5 50 50; make 1 3: " + S,
            "matrix = F00FFF212; yes = 2");
        run("Promise 8: CROSS: d of 0 below, being -1", "make 0 3: -5 5 15 5; make 1 3: " + S,
            "matrix = FFF101212; yes = 2");
        run("Promise 8: CROSS: d of 0 above: 0 0 and 2 0", "make 0 3: " + S + "; make 1 1: 5 5 50 50",
            "matrix = 0F2FF10F2; yes = 3; make 1 2: -5 5 15 5; yes = 3; make 0 2: 0 0 10 0; make 1 1: 5 0 5 9",
            "yes = 3");
        run("Promise 8: CROSS: d of 0 above: 2 0 is not there",
            "make 0 3: " + S + "; make 1 1: 5 5; matrix = 0F2FF1FF2; yes = 58");
        run("Promise 8: CROSS: d of 0 above: 0 0 is not there", "make 0 3: " + S + "; make 1 1: 0 5 50 50",
            "matrix = FF20F10F2; yes = 2");
        run("Promise 8: CROSS: d of 1 being -1", "make 0 3: " + S + "; make 1 3: -5 5 15 5",
            "matrix = F12F01F12; yes = 2");
        run("Promise 8: CROSS: both 1: 0 0 is 0",
            "make 0 2: 0 0 10 10; make 1 2: 0 10 10 0; matrix = 0F1FF0102; yes = 3",
            "make 1 2: 0 10 10 0 / 5 5 5 9; matrix = F01FF0102; yes = 2");
        run("Promise 8: CROSS: both 1: 0 0 is 1",
            "make 0 2: 0 0 10 10; make 1 2: 5 5 15 15; matrix = 1010F0102; yes = 6");
        run("Promise 8: CROSS: both 0: never", "make 0 1: 1 1 2 2; make 1 1: 2 2 3 3; matrix = 0F0FFF0F2; yes = 6");
        run("Promise 8: CROSS: both 2: never",
            "make 0 3: " + S + "; make 1 3: -5 4 15 4 15 6 -5 6; matrix = 212101212; yes = 6");
        run("Promise 8: CROSS: both -1, which is not told: no", "make 0 3: 0 0 10 0; make 1 3: 5 -5 5 5",
            "matrix = FFFF01F12; yes = 02");
    }

    private static void withinOrOverlap() {
        run("Promise 8: WITHIN: 0 0 is there", "make 0 2: 2 0 8 0; make 1 3: " + S + "; matrix = F1FF0F212; yes = 27");
        run("Promise 8: WITHIN: 0 2 alone is there", "make 0 1: 1 1 2 2; make 1 1: 1 1; is 4 = no; is 5 = yes");
        run("Promise 8: WITHIN: 1 2 alone is there",
            "make 0 3: " + SPURRED + "; make 1 3: " + S + "; is 4 = no; is 5 = yes");
        run("Promise 8: WITHIN: nothing is within nothing", "is 4 = no; make 1 3: " + S + "; is 4 = no; is 7 = no");
        run("Promise 8: CONTAINS: 0 0 is there",
            "make 0 3: " + S + "; make 1 2: 2 0 8 0; matrix = FF2101FF2; yes = 28");
        run("Promise 8: CONTAINS: 2 0 alone is there", "make 0 1: 1 1; make 1 1: 1 1 2 2; is 5 = no; is 4 = yes");
        run("Promise 8: CONTAINS: 2 1 alone is there",
            "make 0 3: " + S + "; make 1 3: " + SPURRED + "; is 5 = no; is 4 = yes");
        run("Promise 8: CONTAINS: nothing contains nothing", "is 5 = no; make 0 3: " + S + "; is 5 = no; is 8 = no");
        run("Promise 8: OVERLAP: both have one d", "make 0 1: 5 5 50 50; make 1 3: " + S + "; is 6 = no",
            "make 0 2: -5 5 15 5; is 6 = no; make 1 2: 5 5 25 5; is 6 = yes; make 1 1: 5 5 50 50; is 6 = no");
        run("Promise 8: OVERLAP: which is not -1",
            "is 6 = no; make 0 3: 0 0 10 0; make 1 3: 5 0 15 0; matrix = FFFF11F12", "yes = 02");
        run("Promise 8: OVERLAP: 0 0 is d", "make 0 2: 0 0 10 10; make 1 2: 0 10 10 0; is 6 = no; make 0 3: " + S,
            "make 1 3: 10 0 20 0 20 10; is 6 = no");
        run("Promise 8: OVERLAP: 0 2 is there", "make 0 2: 2 0 8 0; make 1 2: 0 0 10 0; matrix = 1FF0FF102; yes = 47",
            "make 0 1: 1 1; make 1 1: 1 1 2 2; yes = 47");
        run("Promise 8: OVERLAP: 2 0 is there", "make 0 2: 0 0 10 0; make 1 2: 2 0 8 0; matrix = 101FF0FF2; yes = 58",
            "make 0 3: " + S + "; make 1 3: 1 1 2 1 2 2; matrix = 212FF1FF2; yes = 58");
    }

    private static void coveredOrCovers() {
        run("Promise 8: COVERED: 0 0 alone", "make 0 1: 1 1; make 1 1: 1 1 2 2; yes = 47");
        run("Promise 8: COVERED: 0 1 alone", "make 0 1: 0 5; make 1 3: " + S + "; yes = 27");
        run("Promise 8: COVERED: 1 0 alone", "make 0 3: 2 5 8 5; make 1 3: " + S + "; matrix = FFF1FF212; yes = 27");
        run("Promise 8: COVERED: 1 1 alone", "make 0 3: 2 0 8 0; make 1 3: " + S + "; matrix = FFFF1F212; yes = 27");
        run("Promise 8: COVERED: none of them is there", "make 1 3: " + S + "; matrix = FFFFFF212; yes = 1");
        run("Promise 8: COVERED: 0 2 alone", "make 0 1: 1 1 2 2; make 1 1: 1 1; is 7 = no");
        run("Promise 8: COVERED: 1 2 alone", "make 0 3: " + SPURRED + "; make 1 3: " + S + "; is 7 = no");
        run("Promise 8: COVERS: 0 0 alone", "make 0 1: 1 1 2 2; make 1 1: 1 1; yes = 58");
        run("Promise 8: COVERS: 0 1 alone", "make 0 3: " + S + "; make 1 3: 2 5 8 5; matrix = F12FF1FF2; yes = 28");
        run("Promise 8: COVERS: 1 0 alone", "make 0 3: " + S + "; make 1 1: 0 5; yes = 28");
        run("Promise 8: COVERS: 1 1 alone", "make 0 3: " + S + "; make 1 3: 2 0 8 0; matrix = FF2F11FF2; yes = 28");
        run("Promise 8: COVERS: none of them is there", "make 0 3: " + S + "; matrix = FF2FF1FF2; yes = 1");
        run("Promise 8: COVERS: 2 0 alone", "make 0 1: 1 1; make 1 1: 1 1 2 2; is 8 = no");
        run("Promise 8: COVERS: 2 1 alone", "make 0 3: " + S + "; make 1 3: " + SPURRED + "; is 8 = no");
        run("Promise 8: for another number", "is -1 = IndexOutOfBounds; is 9 = IndexOutOfBounds",
            "is 2147483647 = IndexOutOfBounds; is -2147483648 = IndexOutOfBounds; is 0 = yes; is 8 = no");
    }

    private static void dimensionsAndCounts() {
        run("Promise 9: -1",
            "dimension 0 = -1; dimension 1 = -1; part 0 = 1; dimension 0 = -1; make 0 2: 5 5 / 7 7 7 7",
            "dimension 0 = -1; make 1 3: 5 5 / 7 7 7 7; dimension 1 = -1; make 0 2:; dimension 0 = -1");
        run("Promise 9: 0", "make 0 1: 1 1; dimension 0 = 0; make 1 1: 1 1 2 2 / 9 9; dimension 1 = 0");
        run("Promise 9: 1", "make 0 2: 0 0 1 0; dimension 0 = 1; make 0 2: 0 0 1 0 0 0; dimension 0 = 1");
        run("Promise 9: of its rim, when nothing is inside",
            "make 0 3: 0 0 1 0; dimension 0 = 1; make 1 3: 0 0 5 0 9 0",
            "dimension 1 = 1; make 1 3: " + S + " / " + S + "; dimension 1 = 1");
        run("Promise 9: 2",
            "make 0 3: 0 0 1 0 0 1; dimension 0 = 2; make 1 3: 0 0 500000000 500000000 499999999 499999998",
            "dimension 1 = 2; make 1 3: " + SPURRED + "; dimension 1 = 2");
        run("Promise 9: whatever the other one is",
            "make 0 3: " + S + "; make 1 3: -9 -9 50 -9 50 50 -9 50; dimension 0 = 2",
            "make 0 1: 1 1; dimension 0 = 0; make 0 2: 0 0 1 1; dimension 0 = 1; make 0 3: -9 -9 50 -9",
            "dimension 0 = 1",
            "make 0 3: -9 -9 50 -9 50 50 -9 50; make 1 1: 1 1; dimension 1 = 0; make 1 2: 1 1 2 2; dimension 1 = 1",
            "make 1 3: 1 1 2 2; dimension 1 = 1; make 1 3: 1 1 2 2 1 2; dimension 1 = 2");
        run("Promise 9: also where it is on the rim of the other one alone",
            "make 0 3: " + S + "; make 1 1: 0 5; dimension 1 = 0; make 1 2: 0 2 0 8; matrix = FF2101FF2",
            "dimension 1 = 1",
            "make 1 3: 0 2 0 8; dimension 1 = 1; make 1 3: " + S + "; make 0 1: 0 5; dimension 0 = 0",
            "make 0 2: 0 2 0 8", "dimension 0 = 1; make 0 3: 0 2 0 8; dimension 0 = 1");
        run("Promise 10: kind, parts, points", "make 0 2: 1 1 1 1 / / 3 3; make 1 3: 1 1; count 0 0 = 2; count 0 1 = 3",
            "count 0 2 = 3; count 1 0 = 3; count 1 1 = 1; count 1 2 = 1");
        run("Promise 10: also for another what", "count 0 -1 = IndexOutOfBounds; count 0 3 = IndexOutOfBounds",
            "count 1 2147483647 = IndexOutOfBounds; count 1 -2147483648 = IndexOutOfBounds",
            "count 2 3 = IndexOutOfBounds", "count -1 -1 = IndexOutOfBounds");
    }

    /** Where numbers of 32, or products of 64 bits would wrap around. */
    private static void farOut() {
        run("Wrap-around: products of the widest differences",
            "make 0 3: -500000000 -500000000 500000000 -500000000 500000000 500000000; locate 0 0 0 = 1",
            "locate 0 1 0 = 0",
            "locate 0 0 1 = 2; locate 0 -500000000 500000000 = 2; locate 0 500000000 -500000000 = 1",
            "dimension 0 = 2");
        run("Wrap-around: the widest crossing", "make 0 2: -500000000 -500000000 500000000 500000000",
            "make 1 2: -500000000 500000000 500000000 -500000000; matrix = 0F1FF0102; yes = 3; make 1 1: 0 0",
            "matrix = 0F1FF0FF2; yes = 58");
        run("Wrap-around: the widest triangles that meet along a diagonal",
            "make 0 3: -500000000 -500000000 500000000 -500000000 500000000 500000000",
            "make 1 3: -500000000 -500000000 -500000000 500000000 500000000 500000000; matrix = FF2F11212; yes = 2");
        run("Wrap-around: a crossing at a place of no whole numbers",
            "make 0 2: -500000000 -499999999 500000000 500000000",
            "make 1 3: -500000000 500000000 500000000 -499999999 500000000 500000000; matrix = 101F00212; yes = 3");
        run("Wrap-around: three lines through one place of no whole numbers, and one that just misses it",
            "make 0 3: -500000000 -499999999 500000000 500000000 500000000 -499999999 -500000000 500000000",
            "make 1 2: 0 -500000000 0 500000000; matrix = FF20F1102; yes = 2; make 1 2: 1 -500000000 -1 500000000",
            "matrix = 1F20F1102; yes = 3");
        run("Wrap-around: an area next to nothing wide",
            "make 0 3: -500000000 -500000000 500000000 499999999 499999999 499999998",
            "dimension 0 = 2; make 1 2: -500000000 -500000000 500000000 499999999; matrix = FF2101FF2; yes = 28");
    }

    public static void main(String[] args) {
        whatItIs();
        shapesAndPlaces();
        segments();
        placesOfPointsAndLines();
        placesOfAreas();
        matrices();
        makingCalls();
        fullShapes();
        numbersAndEntries();
        equalOrDisjoint();
        touchOrCross();
        withinOrOverlap();
        coveredOrCovers();
        dimensionsAndCounts();
        farOut();
        String told = wrong == 0 ? "all answers are as due" : wrong + " answers are not as due";
        System.out.println(told + " (" + runs + " runs)");
        if (wrong != 0) {
            System.exit(1);
        }
    }
}
