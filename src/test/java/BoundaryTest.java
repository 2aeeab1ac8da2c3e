import java.util.function.ToIntFunction;

/**
 * The sentences of the document that name a boundary case (too small, too large, empty, full,
 * a wrap-around, a refused call), in the document's order, each with a test of its own.
 */
public final class BoundaryTest {
    private static final int BAD = -1;
    private static final int NO = -2;
    private static final int FULL = -3;
    private static final int PIXEL = 65536;
    private static final int HALF = 32768;
    private static final int FAR = 536870912;
    private static final int LEAST = Integer.MIN_VALUE;
    private static final int MOST = Integer.MAX_VALUE;
    private static final int MOST_CALLS = 512;
    /** Numbers just beyond the places, and those that a wrap-around would bring back among them. */
    private static final int[] NO_PLACES = {
        FAR + 1, -FAR - 1, 2 * FAR, -2 * FAR, MOST, LEAST, LEAST + 1, LEAST + FAR, MOST - FAR, 3 * FAR, -3 * FAR};
    private static final int[] NO_RULES = {-1, 2, 3, 256, 257, -2, LEAST, LEAST + 1, MOST};
    private static final int[] NO_GRAYS = {-1, 256, 257, 511, -255, -256, 65536, LEAST, LEAST + 255, MOST};

    private static String sentence = "";
    private static int wrong = 0;

    private static void sentence(String words) {
        sentence = words;
    }

    private static void due(String what, int got, int want) {
        if (got != want) {
            wrong++;
            System.out.println("[" + sentence + "] " + what + " answered " + got + ", due is " + want);
        }
    }

    /** An object with its calls counted: what it answers beyond its last one is free, and proves nothing. */
    private static final class Page {
        private final WindingRaster raster;
        private int calls = 0;

        Page(int columns, int rows) {
            raster = new WindingRaster(columns, rows);
        }

        private WindingRaster use() {
            calls++;
            if (calls > MOST_CALLS) {
                throw new IllegalStateException("the test makes too many calls: " + sentence);
            }
            return raster;
        }

        int columns() { return use().columns(); }
        int rows() { return use().rows(); }
        int move(int x, int y) { return use().move(x, y); }
        int line(int x, int y) { return use().line(x, y); }
        int clear() { return use().clear(); }
        int winding(int column, int row) { return use().winding(column, row); }
        int fill(int rule, int gray) { return use().fill(rule, gray); }
        int clip(int rule) { return use().clip(rule); }
        int save() { return use().save(); }
        int restore() { return use().restore(); }
        int gray(int column, int row) { return use().gray(column, row); }
        int open(int column, int row) { return use().open(column, row); }
        int pixels() { return use().pixels(); }
        int runs() { return use().runs(); }
        int count(int row, int gray) { return use().count(row, gray); }
        int flood(int gray) { return use().flood(gray); }

        /** A closed line more, with whole pixels as corners: its winding number is 1. */
        Page box(int left, int top, int right, int bottom) {
            move(left * PIXEL, top * PIXEL);
            line(left * PIXEL, bottom * PIXEL);
            line(right * PIXEL, bottom * PIXEL);
            line(right * PIXEL, top * PIXEL);
            return this;
        }

        /**
         * A closed line more, which has one run in each row for each of the columns 0, 2, 4, ..:
         * a zigzag between places so far up and down that its edges stand almost upright on the page.
         */
        Page zigzag(int runs) {
            move(-HALF, -FAR);
            for (int i = 1; i <= 2 * runs; i++) {
                line(i * PIXEL - HALF, i % 2 == 0 ? -FAR : FAR);
            }
            return this;
        }

        /** All pixels leave the clip. */
        Page shut() {
            clear();
            clip(0);
            return this;
        }
    }

    // ---- Terms

    private static void places() {
        sentence("Terms: places are -536870912 to 536870912");
        int[] good = {-FAR, -FAR + 1, -1, 0, 1, FAR - 1, FAR};
        Page x = new Page(2, 2);
        int points = 0;
        for (int a : good) {
            for (int b : good) {
                points++;
                due("move(" + a + ", " + b + ")", x.move(a, b), points);
                points++;
                due("line(" + b + ", " + a + ")", x.line(b, a), points);
            }
        }
        for (int n : NO_PLACES) {
            due("move(" + n + ", 0)", x.move(n, 0), BAD);
            due("move(0, " + n + ")", x.move(0, n), BAD);
            due("line(" + n + ", 0)", x.line(n, 0), BAD);
            due("line(0, " + n + ")", x.line(0, n), BAD);
            due("move of " + n + " twice", x.move(n, n), BAD);
            due("line of " + n + " twice", x.line(n, n), BAD);
        }
        due("the good ones are there, and no others", x.clear(), points);
    }

    private static void centres() {
        sentence("Terms: the centre is at 65536 times its column and row, and 32768 more");
        Page x = new Page(300, 300);
        int last = 255 * PIXEL + HALF;
        // Of the last pixel the least box that has its centre, and the four that just miss it.
        int[][] boxes = {
            {last, last, last + 1, last + 1, 1}, {last + 1, last, last + 2, last + 1, 0},
            {last - 1, last, last, last + 1, 0}, {last, last + 1, last + 1, last + 2, 0},
            {last, last - 1, last + 1, last, 0}};
        for (int[] b : boxes) {
            x.move(b[0], b[1]);
            x.line(b[0], b[3]);
            x.line(b[2], b[3]);
            x.line(b[2], b[1]);
            due("box from " + b[0] + ", " + b[1], x.winding(255, 255), b[4]);
            due("fill of it", x.fill(0, 1), b[4]);
            x.clear();
        }
    }

    private static void graysAtFirst() {
        sentence("Terms: each pixel has a gray, 0 to 255, at first 255");
        Page x = new Page(3, 2);
        due("first pixel", x.gray(0, 0), 255);
        due("last pixel", x.gray(2, 1), 255);
        due("white ones of a row", x.count(1, 255), 3);
        due("flood(0)", x.flood(0), 6);
        due("the least gray", x.gray(2, 1), 0);
        due("flood(255)", x.flood(255), 6);
        due("the largest gray", x.gray(2, 1), 255);
    }

    private static void closingEdge() {
        sentence("Terms: from the last point to the first one lies an edge");
        Page x = new Page(4, 4);
        x.move(0, 0);
        due("a line of one point", x.winding(0, 0), 0);
        due("fill of one point", x.fill(0, 1), 0);
        x.line(4 * PIXEL, 4 * PIXEL);
        due("a line of two points, there and back", x.winding(3, 1), 0);
        due("fill of two points", x.fill(0, 1), 0);
        x.line(4 * PIXEL, 0);
        due("closed by the edge from the third", x.winding(3, 1), 1);
        x.line(4 * PIXEL, 0);
        due("a point twice changes nothing", x.winding(3, 1), 1);
        // The line before is closed at its own first point, not at the new one's.
        x.move(0, 4 * PIXEL);
        due("a new line of one point changes nothing", x.winding(3, 1), 1);
        due("nor does it elsewhere", x.winding(0, 3), 0);
    }

    private static void mostPoints() {
        sentence("Terms: the outline has at most 4096 points");
        Page x = new Page(1, 1);
        // An object has no more calls than these: none of them may be refused.
        for (int i = 1; i <= MOST_CALLS; i++) {
            due("point " + i, i % 7 == 1 ? x.move(i, i) : x.line(-i, i), i);
        }
        // Beyond its last call the answers are free; this class keeps the limit all the same.
        WindingRaster y = new WindingRaster(1, 1);
        for (int i = 1; i <= 4096; i++) {
            due("point " + i, y.move(i, i), i);
        }
        due("point 4097 by move", y.move(0, 0), FULL);
        due("point 4097 by line", y.line(0, 0), FULL);
        due("BAD is ahead of it", y.move(FAR + 1, 0), BAD);
        due("BAD is ahead of it", y.line(0, -FAR - 1), BAD);
        due("no point more", y.clear(), 4096);
        due("NO when the full one is gone", y.line(0, 0), NO);
        due("room again", y.move(0, 0), 1);
    }

    private static void onAnEdge() {
        sentence("Terms: a place on an edge is right of it");
        Page x = new Page(3, 1);
        int centre = PIXEL + HALF;
        for (int off = -1; off <= 1; off++) {
            // Straight down, straight up, and both slants through the centre of column 1, or beside it.
            int[][] edges = {{0, 0, 1}, {0, 0, -1}, {HALF, -HALF, 1}, {HALF, -HALF, -1}, {-HALF, HALF, 1}, {-HALF, HALF, -1}};
            for (int[] e : edges) {
                int top = centre + off + e[0];
                int bottom = centre + off + e[1];
                x.move(e[2] > 0 ? top : bottom, e[2] > 0 ? 0 : PIXEL);
                x.line(e[2] > 0 ? bottom : top, e[2] > 0 ? PIXEL : 0);
                x.line(FAR, e[2] > 0 ? PIXEL : 0);
                x.line(FAR, e[2] > 0 ? 0 : PIXEL);
                String what = "edge from " + top + " to " + bottom + ", way " + e[2];
                due(what + ", left of it", x.winding(0, 0), 0);
                due(what + ", on it or beside", x.winding(1, 0), off <= 0 ? e[2] : 0);
                due(what + ", right of it", x.winding(2, 0), e[2]);
                due(what + ", fill", x.fill(1, 1), off <= 0 ? 2 : 1);
                x.clear();
            }
        }
    }

    private static void exactPlace() {
        sentence("Terms: the exact place between a and c");
        Page x = new Page(1, 1);
        // One that goes aside by 1 / 65536 on its long way is beside the centre by a tiny part of that.
        int[][] edges = {{HALF, 0}, {HALF + 1, 1}, {HALF - 1, -1}};
        for (int[] e : edges) {
            x.move(HALF, HALF);
            x.line(e[0], FAR);
            x.line(FAR, FAR);
            x.line(FAR, HALF);
            due("an edge that starts at the centre and goes to " + e[0], x.winding(0, 0), 1);
            x.clear();
            x.move(HALF, HALF - 1);
            x.line(e[0], FAR);
            x.line(FAR, FAR);
            x.line(FAR, HALF - 1);
            due("an edge that starts above it and goes to " + e[0], x.winding(0, 0), e[1] > 0 ? 0 : 1);
            due("fill of it", x.fill(0, 1), e[1] > 0 ? 0 : 1);
            x.clear();
        }
        // Both products are as large as places let them be.
        x.move(-FAR, -FAR);
        x.line(FAR, FAR);
        x.line(FAR, -FAR);
        due("on the diagonal of all places", x.winding(0, 0), 1);
        x.clear();
        x.move(-FAR, FAR);
        x.line(FAR, -FAR);
        x.line(FAR, FAR);
        due("right of the other diagonal", x.winding(0, 0), -1);
        x.clear();
        x.move(-FAR, FAR);
        x.line(FAR, -FAR);
        x.line(-FAR, -FAR);
        due("right of all of it", x.winding(0, 0), 0);
    }

    private static void edgeEnds() {
        sentence("Terms: b <= y < d one more, d <= y < b one less");
        Page x = new Page(2, 3);
        // From the centres' height of row 0 to that of row 2, by a line that stands right of no centre.
        x.move(0, HALF);
        x.line(0, 2 * PIXEL + HALF);
        x.line(FAR, 2 * PIXEL + HALF);
        x.line(FAR, HALF);
        due("y = b", x.winding(1, 0), 1);
        due("between", x.winding(1, 1), 1);
        due("y = d", x.winding(1, 2), 0);
        due("fill", x.fill(0, 1), 4);
        x.clear();
        x.move(0, 2 * PIXEL + HALF);
        x.line(0, HALF);
        x.line(FAR, HALF);
        x.line(FAR, 2 * PIXEL + HALF);
        due("y = d of one that goes up", x.winding(1, 0), -1);
        due("between", x.winding(1, 1), -1);
        due("y = b of one that goes up", x.winding(1, 2), 0);
        due("fill", x.fill(0, 2), 4);
        x.clear();
        // A point at a centre's height, where one edge ends and the next one starts, counts once.
        x.move(0, 0);
        x.line(0, PIXEL + HALF);
        x.line(0, 3 * PIXEL);
        x.line(FAR, 3 * PIXEL);
        x.line(FAR, 0);
        due("two edges that meet there", x.winding(0, 1), 1);
        x.clear();
        // A tip that comes down to a centre's height and goes up again counts never; one that comes up, never in sum.
        x.move(0, 0);
        x.line(HALF, PIXEL + HALF);
        x.line(PIXEL, 0);
        due("a tip at the centre from above", x.winding(0, 1), 0);
        x.clear();
        x.move(0, 3 * PIXEL);
        x.line(HALF, PIXEL + HALF);
        x.line(PIXEL, 3 * PIXEL);
        due("a tip at the centre from below", x.winding(0, 1), 0);
        due("right of that tip", x.winding(1, 1), 0);
        due("below that tip", x.winding(0, 2), -1);
    }

    private static void levelEdges() {
        sentence("Terms: an edge with b = d never counts");
        Page x = new Page(3, 2);
        x.move(-FAR, HALF);
        x.line(FAR, HALF);
        due("level at the centres' height", x.winding(1, 0), 0);
        x.line(-FAR, HALF);
        x.line(HALF, HALF);
        due("to and fro", x.winding(0, 0), 0);
        due("right of its end", x.winding(2, 0), 0);
        due("fill, rule 0", x.fill(0, 1), 0);
        due("fill, rule 1", x.fill(1, 1), 0);
        x.clear();
        x.move(HALF, HALF);
        due("a point on the centre", x.winding(0, 0), 0);
        due("beside it", x.winding(1, 0), 0);
        x.clear();
        // Steps within a line: only the upright parts count.
        x.move(0, 0);
        x.line(0, HALF);
        x.line(PIXEL, HALF);
        x.line(PIXEL, 2 * PIXEL);
        x.line(3 * PIXEL, 2 * PIXEL);
        x.line(3 * PIXEL, 0);
        due("left of the step", x.winding(0, 0), 0);
        due("right of the step", x.winding(1, 0), 1);
        due("fill of the steps", x.fill(0, 1), 4);
    }

    private static void insideByRule() {
        sentence("Terms: inside under rule 0 when not 0, under rule 1 when odd");
        for (int turns = -4; turns <= 4; turns++) {
            Page x = new Page(2, 2);
            for (int i = 0; i < Math.abs(turns); i++) {
                x.move(0, 0);
                x.line(turns > 0 ? 0 : 2 * PIXEL, turns > 0 ? 2 * PIXEL : 0);
                x.line(2 * PIXEL, 2 * PIXEL);
                x.line(turns > 0 ? 2 * PIXEL : 0, turns > 0 ? 0 : 2 * PIXEL);
            }
            due("turns", x.winding(1, 1), turns);
            due("rule 0 of " + turns, x.fill(0, 1), turns != 0 ? 4 : 0);
            due("rule 1 of " + turns, x.fill(1, 2), turns % 2 != 0 ? 4 : 0);
            x.save();
            due("clip by rule 0 of " + turns, x.clip(0), turns != 0 ? 4 : 0);
            x.restore();
            due("clip by rule 1 of " + turns, x.clip(1), turns % 2 != 0 ? 4 : 0);
        }
    }

    private static void savedAtMost() {
        sentence("Terms: clips that were saved lie on a pile, 12 at most");
        Page x = new Page(1, 1);
        for (int round = 0; round < 2; round++) {
            for (int i = 1; i <= 12; i++) {
                due("save " + i, x.save(), i);
            }
            due("save 13", x.save(), FULL);
            due("runs of 13 clips", x.runs(), 13);
            for (int i = 11; i >= 0; i--) {
                due("restore to " + i, x.restore(), i);
            }
            due("restore of none", x.restore(), NO);
        }
    }

    private static void runsAtFirst() {
        sentence("Terms: all pixels at first: one run for each row");
        due("1 x 1", new Page(1, 1).runs(), 1);
        due("256 x 1", new Page(256, 1).runs(), 1);
        due("1 x 256", new Page(1, 256).runs(), 256);
        due("256 x 256", new Page(256, 256).runs(), 256);
    }

    private static void runsOfOneRow() {
        sentence("Terms: a clip has runs: pixels of one row that follow one another");
        Page x = new Page(4, 3);
        // The end of row 0 and the start of row 1 follow one another in memory, not in a row.
        x.box(2, 0, 4, 1).box(0, 1, 2, 2);
        due("pixels", x.clip(0), 4);
        due("runs", x.runs(), 2);
        due("open at the end of row 0", x.open(3, 0), 1);
        due("open at the start of row 1", x.open(0, 1), 1);
        due("not open at the start of row 0", x.open(0, 0), 0);
        due("not open at the end of row 1", x.open(3, 1), 0);
        Page y = new Page(7, 1);
        y.box(0, 0, 2, 1).box(2, 0, 4, 1).box(3, 0, 5, 1).box(6, 0, 7, 1);
        due("pixels of boxes that touch", y.clip(0), 6);
        due("they are one run", y.runs(), 2);
        Page z = new Page(7, 1);
        z.box(0, 0, 7, 1);
        z.clip(0);
        z.clear();
        for (int column = 0; column < 7; column += 2) {
            z.box(column, 0, column + 1, 1);
        }
        due("every second pixel", z.clip(0), 4);
        due("is a run by itself", z.runs(), 4);
    }

    private static void runsAtMost() {
        sentence("Terms: all clips have at most 24000 runs together");
        Page x = new Page(256, 240).zigzag(100);
        due("24000 runs in one clip", x.clip(0), 24000);
        due("runs", x.runs(), 24000);
        Page y = new Page(256, 256).zigzag(94);
        due("24064 runs in one clip", y.clip(0), FULL);
        due("runs", y.runs(), 256);
        // Eleven saved ones and the present one, of 2000 runs each, reach the limit together.
        Page z = new Page(256, 250).zigzag(8);
        due("2000 runs in one clip", z.clip(0), 2000);
        for (int i = 1; i <= 11; i++) {
            due("save " + i, z.save(), i);
            due("runs", z.runs(), 2000 * (i + 1));
        }
        due("a twelfth of as many runs", z.save(), FULL);
        due("runs stay", z.runs(), 24000);
        due("one of fewer runs", z.shut().save(), 12);
        due("runs", z.runs(), 22000);
    }

    private static void constants() {
        sentence("Terms: NO = -2, FULL = -3");
        due("BAD", WindingRaster.BAD, BAD);
        due("NO", WindingRaster.NO, NO);
        due("FULL", WindingRaster.FULL, FULL);
    }

    // ---- Promises 1 to 3

    private static void sizes() {
        sentence("1: columns and rows are each brought to 1 .. 256");
        int[][] sizes = {
            {LEAST, 1}, {LEAST + 1, 1}, {-256, 1}, {-1, 1}, {0, 1}, {1, 1}, {2, 2}, {255, 255}, {256, 256},
            {257, 256}, {512, 256}, {65536, 256}, {65537, 256}, {MOST, 256}};
        for (int[] c : sizes) {
            for (int[] r : sizes) {
                Page x = new Page(c[0], r[0]);
                String what = "new (" + c[0] + ", " + r[0] + "): ";
                due(what + "columns", x.columns(), c[1]);
                due(what + "rows", x.rows(), r[1]);
                due(what + "pixels", x.pixels(), c[1] * r[1]);
                due(what + "runs", x.runs(), r[1]);
                due(what + "the last pixel", x.gray(c[1] - 1, r[1] - 1), 255);
                due(what + "the last pixel is open", x.open(c[1] - 1, r[1] - 1), 1);
                due(what + "no column more", x.gray(c[1], 0), BAD);
                due(what + "no row more", x.gray(0, r[1]), BAD);
                due(what + "flood", x.flood(7), c[1] * r[1]);
                due(what + "the last row", x.count(r[1] - 1, 7), c[1]);
            }
        }
    }

    private static void newIsEmpty() {
        sentence("1: no outline; the clip has all pixels");
        Page x = new Page(2, 2);
        due("line", x.line(0, 0), NO);
        due("clear", x.clear(), 0);
        due("winding", x.winding(0, 0), 0);
        due("fill", x.fill(0, 1), 0);
        due("restore", x.restore(), NO);
        due("pixels", x.pixels(), 4);
    }

    // ---- Promises 4 to 7

    private static void moveRefused() {
        sentence("4: BAD when x or y is no place");
        for (int n : NO_PLACES) {
            Page x = new Page(2, 2);
            due("x = " + n + " on a new object", x.move(n, 0), BAD);
            due("y = " + n + " on a new object", x.move(0, n), BAD);
            due("no line has begun", x.line(0, 0), NO);
            due("no point is there", x.clear(), 0);
        }
        // A refused move neither begins a line nor closes the one before.
        Page y = new Page(2, 2);
        y.move(0, 0);
        y.line(0, 2 * PIXEL);
        due("refused", y.move(FAR + 1, 0), BAD);
        y.line(2 * PIXEL, 2 * PIXEL);
        due("the line goes on", y.line(2 * PIXEL, 0), 4);
        due("and is one box", y.fill(0, 1), 4);
        due("closed at its first point", y.winding(1, 0), 1);
    }

    private static void moveFull() {
        sentence("4: FULL");
        WindingRaster x = new WindingRaster(2, 2);
        x.move(0, 0);
        x.line(0, 2 * PIXEL);
        for (int i = 3; i <= 4096; i++) {
            x.line(2 * PIXEL, i == 4096 ? 0 : 2 * PIXEL);
        }
        int before = x.winding(1, 0);
        due("before", before, 1);
        due("move", x.move(0, 0), FULL);
        due("the outline stays", x.winding(1, 0), before);
        due("its points stay", x.clear(), 4096);
    }

    private static void lineRefused() {
        sentence("5: NO when there is no line, behind BAD");
        Page x = new Page(2, 2);
        due("new", x.line(0, 0), NO);
        due("at the farthest places", x.line(FAR, -FAR), NO);
        due("again", x.line(0, 0), NO);
        for (int n : NO_PLACES) {
            due("BAD ahead of NO, x = " + n, x.line(n, 0), BAD);
            due("BAD ahead of NO, y = " + n, x.line(0, n), BAD);
        }
        due("still no point", x.clear(), 0);
        due("first point", x.move(0, 0), 1);
        due("now there is a line", x.line(0, 0), 2);
        x.clear();
        due("none behind clear", x.line(0, 0), NO);
        due("BAD behind clear", x.line(FAR + 1, 0), BAD);
    }

    private static void lineIsBad() {
        sentence("5: answers as move(): BAD, FULL");
        for (int n : NO_PLACES) {
            Page x = new Page(2, 2);
            x.move(0, 0);
            x.line(0, 2 * PIXEL);
            due("x = " + n, x.line(n, 0), BAD);
            due("y = " + n, x.line(0, n), BAD);
            x.line(2 * PIXEL, 2 * PIXEL);
            due("refused ones are no points", x.line(2 * PIXEL, 0), 4);
            due("and have no edges", x.fill(1, 1), 4);
        }
        WindingRaster y = new WindingRaster(1, 1);
        y.move(0, 0);
        for (int i = 2; i <= 4096; i++) {
            due("point " + i, y.line(0, PIXEL), i);
        }
        due("point 4097", y.line(PIXEL, 0), FULL);
        due("it has no edge", y.winding(0, 0), 0);
        due("it is not there", y.clear(), 4096);
    }

    private static void clearOfNone() {
        sentence("6: how many points it had, also of an empty outline");
        Page x = new Page(2, 2);
        due("new", x.clear(), 0);
        due("again", x.clear(), 0);
        x.move(FAR + 1, 0);
        x.line(0, 0);
        due("behind refused calls", x.clear(), 0);
        x.move(0, 0);
        due("one point", x.clear(), 1);
        due("gone", x.clear(), 0);
        x.box(0, 0, 2, 2);
        x.move(5, 5);
        due("two lines", x.clear(), 5);
        due("gone", x.clear(), 0);
        due("its winding number too", x.winding(0, 0), 0);
        due("its inside too", x.fill(0, 1), 0);
        // What was there before must not come back with a new line.
        x.move(0, 0);
        x.line(0, PIXEL);
        x.line(PIXEL, PIXEL);
        due("a shorter line", x.line(PIXEL, 0), 4);
        due("only its own pixel", x.fill(0, 1), 1);
    }

    private static void windingOffPage() {
        sentence("7: 0 when there is no such pixel");
        Page x = new Page(3, 2);
        x.box(-8000, -8000, 8000, 8000);
        for (int[] p : new int[][] {{0, 0}, {2, 0}, {0, 1}, {2, 1}}) {
            due("a corner " + p[0] + ", " + p[1], x.winding(p[0], p[1]), 1);
        }
        for (int[] p : noPixels(3, 2)) {
            due("winding(" + p[0] + ", " + p[1] + ")", x.winding(p[0], p[1]), 0);
        }
    }

    /** Just off each side of a page, off each corner, and where the sum of row and column would wrap around. */
    private static int[][] noPixels(int columns, int rows) {
        return new int[][] {
            {-1, 0}, {-1, rows - 1}, {columns, 0}, {columns, rows - 1}, {0, -1}, {columns - 1, -1}, {0, rows},
            {columns - 1, rows}, {-1, -1}, {columns, rows}, {-1, rows}, {columns, -1}, {-columns, 1}, {columns, -1},
            {256, 0}, {0, 256}, {65536, 0}, {0, 65536}, {0, 1 << 30}, {1 << 30, 0}, {LEAST, 0}, {0, LEAST}, {MOST, 0},
            {0, MOST}, {MOST, MOST}, {LEAST, LEAST}, {LEAST, MOST}, {MOST, LEAST}, {1, LEAST}, {LEAST, 1}};
    }

    // ---- Promises 8 and 9

    private static void fillBad() {
        sentence("8: BAD when rule is not 0 or 1, or gray not 0 .. 255");
        Page x = new Page(2, 2);
        due("BAD without an outline", x.fill(2, 0), BAD);
        due("BAD without an outline", x.fill(0, 256), BAD);
        x.box(0, 0, 2, 2);
        for (int rule : NO_RULES) {
            due("fill(" + rule + ", 0)", x.fill(rule, 0), BAD);
            due("fill(" + rule + ", 256)", x.fill(rule, 256), BAD);
        }
        for (int gray : NO_GRAYS) {
            due("fill(0, " + gray + ")", x.fill(0, gray), BAD);
            due("fill(1, " + gray + ")", x.fill(1, gray), BAD);
        }
        due("nothing is painted", x.count(0, 255) + x.count(1, 255), 4);
        for (int gray : new int[] {0, 1, 254, 255}) {
            due("fill(0, " + gray + ")", x.fill(0, gray), 4);
            due("painted", x.gray(1, 1), gray);
            due("fill(1, " + gray + ")", x.fill(1, gray), 4);
        }
        x.shut();
        due("BAD with an empty clip", x.fill(-1, 0), BAD);
        due("BAD with an empty clip", x.fill(0, -1), BAD);
    }

    private static void fillCountsAll() {
        sentence("8: how many pixels (those that have it already counted)");
        Page x = new Page(256, 256);
        // From the least places to the largest ones, which all lie off the page.
        x.box(-8192, -8192, 8192, 8192);
        due("white on white", x.fill(0, 255), 65536);
        due("black", x.fill(0, 0), 65536);
        due("black on black", x.fill(1, 0), 65536);
        x.clear();
        x.box(0, 0, 1, 1);
        due("one", x.fill(0, 1), 1);
        due("the same one", x.fill(0, 1), 1);
        x.clear();
        x.box(0, 0, 2, 1);
        due("one that has it and one that has not", x.fill(0, 1), 2);
        due("both have it", x.count(0, 1), 2);
    }

    private static void fillOfNone() {
        sentence("8: all pixels of the clip whose centres are inside; the outline stays");
        Page x = new Page(3, 3);
        due("no outline", x.fill(0, 1), 0);
        x.box(0, 0, 3, 3);
        due("all", x.fill(0, 1), 9);
        due("the outline stays", x.fill(0, 2), 9);
        due("its points stay", x.line(0, 0), 5);
        x.shut();
        x.box(0, 0, 3, 3);
        due("an empty clip", x.fill(0, 3), 0);
        due("nothing painted", x.gray(1, 1), 2);
        Page off = new Page(3, 3);
        off.box(-8192, 0, 0, 3).box(3, 0, 8192, 3).box(0, -8192, 3, 0).box(0, 3, 3, 8192);
        due("only off the page", off.fill(0, 1), 0);
        due("a clip off the page", off.clip(0), 0);
        Page y = new Page(256, 256).zigzag(128);
        due("more runs than clips may have", y.fill(0, 4), 128 * 256);
        due("the last one", y.gray(254, 255), 4);
        due("beside it", y.gray(255, 255), 255);
        due("each row", y.count(0, 4) + y.count(255, 4), 256);
        due("the clip stays", y.runs(), 256);
    }

    private static void clipOfNone() {
        sentence("9: none without an outline");
        for (int rule = 0; rule <= 1; rule++) {
            Page x = new Page(3, 3);
            due("clip(" + rule + ")", x.clip(rule), 0);
            due("pixels", x.pixels(), 0);
            due("runs", x.runs(), 0);
            due("open", x.open(0, 0), 0);
            x.box(0, 0, 3, 3);
            due("an empty clip stays empty", x.clip(rule), 0);
            due("the outline stays", x.clear(), 4);
        }
        Page y = new Page(3, 3);
        y.move(0, 0);
        due("an outline of one point has no inside", y.clip(0), 0);
    }

    private static void clipBad() {
        sentence("9: BAD when rule is not 0 or 1");
        Page x = new Page(3, 3);
        x.box(0, 0, 2, 2);
        for (int rule : NO_RULES) {
            due("clip(" + rule + ")", x.clip(rule), BAD);
        }
        due("the clip stays", x.pixels(), 9);
        due("rule 0", x.clip(0), 4);
        due("rule 1", x.clip(1), 4);
        x.shut();
        due("BAD with an empty clip", x.clip(2), BAD);
    }

    private static void clipFull() {
        sentence("9: FULL when all clips would have more than 24000 runs: the clip stays");
        // 99 runs in 241 rows, and one more in some of them.
        Page x = new Page(256, 241).zigzag(99).box(250, 0, 251, 141);
        due("24000 runs", x.clip(0), 24000);
        due("runs", x.runs(), 24000);
        due("the runs that go are not counted", x.clip(1), 24000);
        due("runs", x.runs(), 24000);
        Page y = new Page(256, 241).zigzag(99).box(250, 0, 251, 142);
        due("24001 runs, rule 0", y.clip(0), FULL);
        due("24001 runs, rule 1", y.clip(1), FULL);
        due("pixels stay", y.pixels(), 256 * 241);
        due("runs stay", y.runs(), 241);
        due("open stays", y.open(1, 0), 1);
        due("the outline stays", y.winding(250, 141), 1);
        due("flood of the clip that stays", y.flood(3), 256 * 241);
        due("nothing was saved", y.restore(), NO);
        due("the outline had all its points", y.clear(), 203);
        due("a smaller one is cut", y.zigzag(9).clip(0), 9 * 241);
    }

    private static void clipFullWithSaved() {
        sentence("9: FULL when all clips would have more than 24000 runs, the saved ones too");
        // One saved clip of 240 runs leaves room for 99 in each row, a second one does not.
        Page x = new Page(256, 240);
        x.save();
        x.zigzag(99);
        due("240 and 23760 runs", x.clip(0), 23760);
        due("runs", x.runs(), 24000);
        x.restore();
        x.save();
        x.save();
        due("480 and 23760 runs", x.clip(0), FULL);
        due("the clip stays", x.pixels(), 256 * 240);
        due("runs stay", x.runs(), 720);
        due("saved ones stay", x.restore(), 1);
        due("the clip is all", x.pixels(), 256 * 240);
        due("room again", x.clip(0), 23760);
        Page y = new Page(256, 241);
        y.save();
        y.zigzag(98).box(250, 0, 251, 141);
        due("241 and 23759 runs", y.clip(0), 23759);
        due("runs", y.runs(), 24000);
        y.restore();
        y.save();
        y.box(250, 141, 251, 142);
        due("241 and 23760 runs", y.clip(0), FULL);
        due("the clip stays", y.pixels(), 256 * 241);
        due("runs stay", y.runs(), 482);
    }

    private static void clipStaysCut() {
        sentence("9: FULL: the clip stays, one that was cut too");
        Page x = new Page(256, 256);
        x.box(0, 0, 255, 256);
        due("cut", x.clip(0), 255 * 256);
        x.clear();
        x.zigzag(94);
        due("too many runs", x.clip(0), FULL);
        due("pixels", x.pixels(), 255 * 256);
        due("runs", x.runs(), 256);
        due("open", x.open(254, 255), 1);
        due("not open", x.open(255, 255), 0);
        due("it can be saved", x.save(), 1);
        due("too many with it", x.clip(1), FULL);
        due("runs of both", x.runs(), 512);
    }

    // ---- Promises 10 and 11

    private static void saveFullOfClips() {
        sentence("10: FULL when 12 are");
        Page x = new Page(4, 4);
        x.box(0, 0, 2, 2);
        x.clip(0);
        for (int i = 1; i <= 12; i++) {
            due("save " + i, x.save(), i);
        }
        due("save 13", x.save(), FULL);
        due("save 14", x.save(), FULL);
        due("runs stay", x.runs(), 26);
        due("the clip stays", x.pixels(), 4);
        x.shut();
        due("an empty clip finds no room either", x.save(), FULL);
        due("12 are saved", x.restore(), 11);
        due("the saved one", x.pixels(), 4);
        due("room for one", x.save(), 12);
        due("and no more", x.save(), FULL);
        Page y = new Page(4, 4).shut();
        for (int i = 1; i <= 12; i++) {
            due("save of an empty one " + i, y.save(), i);
        }
        due("13 empty ones are too many, with no runs at all", y.save(), FULL);
        due("no runs", y.runs(), 0);
    }

    private static void saveFullOfRuns() {
        sentence("10: FULL when all clips would have more than 24000 runs");
        Page x = new Page(256, 240).zigzag(50);
        x.clip(0);
        due("12000 runs twice", x.save(), 1);
        due("runs", x.runs(), 24000);
        due("three times", x.save(), FULL);
        due("runs stay", x.runs(), 24000);
        due("pixels stay", x.pixels(), 12000);
        due("cut to the same", x.clip(0), 12000);
        due("one is saved", x.restore(), 0);
        due("runs", x.runs(), 12000);
        Page y = new Page(256, 241).zigzag(49).box(250, 0, 251, 192);
        due("12001 runs", y.clip(0), 12001);
        due("twice", y.save(), FULL);
        due("runs stay", y.runs(), 12001);
        due("none is saved", y.restore(), NO);
        due("the clip stays", y.pixels(), 12001);
        Page odd = new Page(256, 241);
        odd.save();
        odd.zigzag(49).box(250, 0, 251, 71);
        due("11880 runs beside 241 saved ones", odd.clip(0), 11880);
        due("24001 in all", odd.save(), FULL);
        due("runs stay", odd.runs(), 12121);
        due("one is saved", odd.restore(), 0);
        Page z = new Page(256, 241).zigzag(49).box(250, 0, 251, 191);
        due("12000 runs", z.clip(0), 12000);
        due("twice", z.save(), 1);
        z.shut();
        due("12000 runs saved, none present", z.runs(), 12000);
        due("an empty one finds room", z.save(), 2);
        due("runs", z.runs(), 12000);
    }

    private static void savedIsItsOwn() {
        sentence("10: the clip is saved, too");
        Page x = new Page(3, 3);
        due("save", x.save(), 1);
        due("the clip is there still", x.pixels(), 9);
        due("both have runs", x.runs(), 6);
        x.box(0, 0, 1, 1);
        x.clip(0);
        due("runs of all and one", x.runs(), 4);
        due("a second one", x.save(), 2);
        due("the clip is there still", x.pixels(), 1);
        due("none but its own", x.open(2, 2), 0);
        due("all runs", x.runs(), 5);
        due("the second one", x.restore(), 1);
        due("one pixel", x.pixels(), 1);
        due("the saved one is not cut", x.restore(), 0);
        due("all", x.pixels(), 9);
    }

    private static void restoreOfNone() {
        sentence("11: NO when there is none");
        Page x = new Page(3, 3);
        due("new", x.restore(), NO);
        due("again", x.restore(), NO);
        x.box(0, 0, 2, 2);
        x.clip(0);
        due("a clip that was cut but not saved", x.restore(), NO);
        due("stays", x.pixels(), 4);
        due("its runs", x.runs(), 2);
        x.save();
        due("one", x.restore(), 0);
        due("no other", x.restore(), NO);
        due("stays", x.pixels(), 4);
        x.shut();
        due("an empty one", x.restore(), NO);
        due("stays empty", x.pixels(), 0);
        due("can be saved", x.save(), 1);
        due("and gone back to", x.restore(), 0);
        due("is empty", x.pixels(), 0);
        due("none", x.restore(), NO);
    }

    private static void restoreTheLatest() {
        sentence("11: the latest clip that was saved is the clip again");
        Page x = new Page(13, 1);
        for (int i = 1; i <= 12; i++) {
            due("save " + i, x.save(), i);
            x.clear();
            x.box(i, 0, 13, 1);
            due("cut " + i, x.clip(0), 13 - i);
        }
        for (int i = 11; i >= 0; i--) {
            due("restore to " + i, x.restore(), i);
            due("pixels", x.pixels(), 13 - i);
            due("runs", x.runs(), i + 1);
            due("its first pixel", x.open(i, 0), 1);
            due("none before it", i == 0 ? 0 : x.open(i - 1, 0), 0);
        }
        due("restore of none", x.restore(), NO);
    }

    // ---- Promises 12 to 17

    private static void grayAndOpenBad() {
        sentence("12, 13: BAD when there is no such pixel");
        Page x = new Page(3, 2);
        x.flood(1);
        for (int[] p : new int[][] {{0, 0}, {2, 0}, {0, 1}, {2, 1}}) {
            due("gray of the corner " + p[0] + ", " + p[1], x.gray(p[0], p[1]), 1);
            due("open of the corner " + p[0] + ", " + p[1], x.open(p[0], p[1]), 1);
        }
        for (int[] p : noPixels(3, 2)) {
            due("gray(" + p[0] + ", " + p[1] + ")", x.gray(p[0], p[1]), BAD);
            due("open(" + p[0] + ", " + p[1] + ")", x.open(p[0], p[1]), BAD);
        }
        Page y = new Page(256, 256);
        due("the last pixel", y.gray(255, 255), 255);
        for (int[] p : noPixels(256, 256)) {
            due("gray(" + p[0] + ", " + p[1] + ") of the largest page", y.gray(p[0], p[1]), BAD);
            due("open(" + p[0] + ", " + p[1] + ") of the largest page", y.open(p[0], p[1]), BAD);
        }
        y.shut();
        due("open of an empty clip", y.open(255, 255), 0);
        due("BAD with an empty clip", y.open(256, 255), BAD);
    }

    private static void pixelsOfNone() {
        sentence("14: pixels, of an empty clip too");
        Page x = new Page(256, 256);
        due("all", x.pixels(), 65536);
        x.save();
        due("the saved ones are not counted", x.pixels(), 65536);
        x.shut();
        due("none", x.pixels(), 0);
        x.save();
        due("none saved and none present", x.pixels(), 0);
        x.restore();
        due("none again", x.pixels(), 0);
        x.restore();
        due("all again", x.pixels(), 65536);
    }

    private static void runsOfNone() {
        sentence("15: runs, of an empty clip too");
        Page x = new Page(2, 5).shut();
        due("none", x.runs(), 0);
        x.save();
        due("two of none", x.runs(), 0);
        Page y = new Page(2, 5);
        y.save();
        y.shut();
        due("a saved one and none", y.runs(), 5);
        y.save();
        due("and an empty one saved", y.runs(), 5);
        y.restore();
        y.restore();
        due("all again", y.runs(), 5);
    }

    private static void countOfNoGray() {
        sentence("16: 0 of a gray that is none");
        Page x = new Page(4, 2);
        for (int flood : new int[] {0, 1, 255}) {
            x.flood(flood);
            due("of " + flood, x.count(1, flood), 4);
            for (int gray : NO_GRAYS) {
                due("count(1, " + gray + ") of " + flood, x.count(1, gray), 0);
            }
            due("a gray wrapped around", x.count(1, flood + 256) + x.count(1, flood - 256), 0);
        }
        x.shut();
        due("in the clip or not", x.count(0, 255), 4);
    }

    private static void countOfNoRow() {
        sentence("16: BAD when there is no such row");
        Page x = new Page(4, 2);
        due("first row", x.count(0, 255), 4);
        due("last row", x.count(1, 255), 4);
        for (int row : new int[] {-1, 2, 3, -2, 256, 65536, 1 << 30, -(1 << 30), LEAST, LEAST + 1, MOST}) {
            due("count(" + row + ", 255)", x.count(row, 255), BAD);
            due("count(" + row + ", 0)", x.count(row, 0), BAD);
            due("neither row nor gray: count(" + row + ", 256)", x.count(row, 256), BAD);
        }
        Page y = new Page(256, 256);
        due("the largest page's last row", y.count(255, 255), 256);
        due("none behind it", y.count(256, 255), BAD);
    }

    private static void floodBad() {
        sentence("17: BAD when the gray is not 0 .. 255");
        Page x = new Page(3, 2);
        for (int gray : NO_GRAYS) {
            due("flood(" + gray + ")", x.flood(gray), BAD);
            due("nothing is painted", x.count(0, 255) + x.count(1, 255), 6);
        }
        for (int gray : new int[] {0, 1, 254, 255}) {
            due("flood(" + gray + ")", x.flood(gray), 6);
            due("painted", x.gray(2, 1), gray);
            due("again, counted all the same", x.flood(gray), 6);
        }
        x.save();
        x.shut();
        due("an empty clip", x.flood(9), 0);
        due("BAD with an empty clip", x.flood(256), BAD);
        due("nothing is painted", x.gray(0, 0), 255);
        x.restore();
        due("all", x.flood(9), 6);
    }

    // ---- A refused call changes nothing

    private static Page scene(int saves) {
        Page x = new Page(5, 4);
        x.box(0, 0, 4, 3);
        x.fill(0, 10);
        x.clip(0);
        for (int i = 0; i < saves; i++) {
            x.save();
        }
        x.clear();
        x.box(1, 1, 5, 4);
        x.clip(1);
        x.flood(20);
        x.move(0, 0);
        x.line(0, 4 * PIXEL);
        x.line(3 * PIXEL, 4 * PIXEL);
        return x;
    }

    /** All that can be seen of two objects, and of how they go on, is the same. */
    private static void same(String what, Page x, Page y) {
        for (int row = 0; row < 4; row++) {
            for (int column = 0; column < 5; column++) {
                String at = what + ", then at " + column + ", " + row + ": ";
                due(at + "gray", x.gray(column, row), y.gray(column, row));
                due(at + "open", x.open(column, row), y.open(column, row));
                due(at + "winding", x.winding(column, row), y.winding(column, row));
            }
        }
        due(what + ", then pixels", x.pixels(), y.pixels());
        due(what + ", then runs", x.runs(), y.runs());
        due(what + ", then line", x.line(3 * PIXEL, 0), y.line(3 * PIXEL, 0));
        due(what + ", then winding", x.winding(1, 1), y.winding(1, 1));
        due(what + ", then fill", x.fill(0, 30), y.fill(0, 30));
        for (int i = 0; i < 13; i++) {
            due(what + ", then restore", x.restore(), y.restore());
            due(what + ", then pixels", x.pixels(), y.pixels());
            due(what + ", then runs", x.runs(), y.runs());
        }
        due(what + ", then clear", x.clear(), y.clear());
    }

    private static void refused(String what, int saves, int want, ToIntFunction<Page> call) {
        Page x = scene(saves);
        due(what, call.applyAsInt(x), want);
        due(what + " again", call.applyAsInt(x), want);
        same(what, x, scene(saves));
    }

    private static void refusedCalls() {
        sentence("a refused call changes nothing");
        for (int saves : new int[] {0, 1, 3, 12}) {
            refused("move, no x", saves, BAD, x -> x.move(FAR + 1, 0));
            refused("move, no y", saves, BAD, x -> x.move(0, -FAR - 1));
            refused("line, no x", saves, BAD, x -> x.line(LEAST, 0));
            refused("line, no y", saves, BAD, x -> x.line(0, MOST));
            refused("winding, no pixel", saves, 0, x -> x.winding(5, 0));
            refused("fill, no rule", saves, BAD, x -> x.fill(2, 1));
            refused("fill, no gray", saves, BAD, x -> x.fill(0, 256));
            refused("clip, no rule", saves, BAD, x -> x.clip(-1));
            refused("gray, no pixel", saves, BAD, x -> x.gray(0, 4));
            refused("open, no pixel", saves, BAD, x -> x.open(-1, 0));
            refused("count, no row", saves, BAD, x -> x.count(4, 20));
            refused("count, no gray", saves, 0, x -> x.count(1, 256));
            refused("flood, no gray", saves, BAD, x -> x.flood(-1));
        }
        refused("save of a 13th", 12, FULL, Page::save);
        refused("restore of none", 0, NO, Page::restore);
    }

    private static void lastCall() {
        sentence("an object is used for at most 512 calls");
        Page x = new Page(4, 4);
        x.box(0, 0, 2, 2);
        for (int i = 5; i <= MOST_CALLS - 2; i++) {
            due("call " + i, x.winding(1, 1), 1);
        }
        due("call 511", x.clip(0), 4);
        due("call 512", x.flood(5), 4);
    }

    private static void terms() {
        places();
        centres();
        graysAtFirst();
        closingEdge();
        mostPoints();
        onAnEdge();
        exactPlace();
        edgeEnds();
        levelEdges();
        insideByRule();
        savedAtMost();
        runsAtFirst();
        runsOfOneRow();
        runsAtMost();
        constants();
    }

    private static void promises() {
        sizes();
        newIsEmpty();
        moveRefused();
        moveFull();
        lineRefused();
        lineIsBad();
        clearOfNone();
        windingOffPage();
        fillBad();
        fillCountsAll();
        fillOfNone();
        clipOfNone();
        clipBad();
        clipFull();
        clipFullWithSaved();
        clipStaysCut();
        saveFullOfClips();
        saveFullOfRuns();
        savedIsItsOwn();
        restoreOfNone();
        restoreTheLatest();
        grayAndOpenBad();
        pixelsOfNone();
        runsOfNone();
        countOfNoGray();
        countOfNoRow();
        floodBad();
    }

    public static void main(String[] args) {
        terms();
        promises();
        refusedCalls();
        lastCall();
        System.out.println(wrong == 0 ? "all answers are as due" : wrong + " answers are not as due");
        if (wrong != 0) {
            System.exit(1);
        }
    }
}
