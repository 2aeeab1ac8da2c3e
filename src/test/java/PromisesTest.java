/** Each promise of the document by itself: ordinary calls, the edges it names, and wrong ones. */
public final class PromisesTest {
    private static final int BAD = -1;
    private static final int NO = -2;
    private static final int FULL = -3;
    private static final int PIXEL = 65536;
    private static final int HALF = 32768;
    private static final int FAR = 536870912;
    private static final int LEAST = Integer.MIN_VALUE;
    private static final int MOST = Integer.MAX_VALUE;

    private static int wrong = 0;

    private static void due(String what, int got, int want) {
        if (got != want) {
            wrong++;
            System.out.println(what + " answered " + got + ", due is " + want);
        }
    }

    /** A closed line more, clockwise on the screen, with whole pixels as corners. */
    private static void box(WindingRaster x, int left, int top, int right, int bottom) {
        x.move(left * PIXEL, top * PIXEL);
        x.line(right * PIXEL, top * PIXEL);
        x.line(right * PIXEL, bottom * PIXEL);
        x.line(left * PIXEL, bottom * PIXEL);
    }

    /** One line with so many stripes, each one pixel wide, in the columns 0, 2, 4, .. */
    private static void stripes(WindingRaster x, int stripes, int bottom) {
        for (int i = 0; i < stripes; i++) {
            int left = 2 * i * PIXEL;
            if (i == 0) {
                x.move(left, 0);
            } else {
                x.line(left, 0);
            }
            x.line(left, bottom * PIXEL);
            x.line(left + PIXEL, bottom * PIXEL);
            x.line(left + PIXEL, 0);
        }
    }

    private static void newObject() {
        int[][] asked = {
            {8, 6, 8, 6}, {1, 1, 1, 1}, {256, 256, 256, 256}, {0, 257, 1, 256}, {257, 0, 256, 1},
            {-1, -256, 1, 1}, {LEAST, MOST, 1, 256}, {MOST, LEAST, 256, 1}, {256, 1, 256, 1}, {3, 256, 3, 256}};
        for (int[] a : asked) {
            String what = "1: new (" + a[0] + ", " + a[1] + "): ";
            WindingRaster x = new WindingRaster(a[0], a[1]);
            due(what + "columns", x.columns(), a[2]);
            due(what + "rows", x.rows(), a[3]);
            due(what + "pixels", x.pixels(), a[2] * a[3]);
            due(what + "runs", x.runs(), a[3]);
            due(what + "open at the end", x.open(a[2] - 1, a[3] - 1), 1);
            for (int row = 0; row < a[3]; row++) {
                due(what + "white in row " + row, x.count(row, 255), a[2]);
            }
            due(what + "line", x.line(0, 0), NO);
            due(what + "clear", x.clear(), 0);
            due(what + "restore", x.restore(), NO);
            due(what + "fill", x.fill(0, 1), 0);
        }
        WindingRaster one = new WindingRaster(4, 4);
        WindingRaster other = new WindingRaster(4, 4);
        one.flood(7);
        box(one, 0, 0, 2, 2);
        one.clip(0);
        one.save();
        due("1: another object's gray", other.gray(0, 0), 255);
        due("1: another object's clip", other.pixels(), 16);
        due("1: another object's outline", other.clear(), 0);
    }

    private static void sizesStay() {
        WindingRaster x = new WindingRaster(7, 300);
        box(x, 0, 0, 3, 3);
        x.clip(0);
        x.save();
        x.flood(3);
        due("2: columns later on", x.columns(), 7);
        due("3: rows later on", x.rows(), 256);
    }

    private static void move() {
        WindingRaster x = new WindingRaster(8, 8);
        due("4: first move", x.move(0, 0), 1);
        due("4: move again", x.move(5, 5), 2);
        due("4: farthest places", x.move(FAR, -FAR), 3);
        due("4: farthest places", x.move(-FAR, FAR), 4);
        int[][] bad = {{FAR + 1, 0}, {-FAR - 1, 0}, {0, FAR + 1}, {0, -FAR - 1}, {LEAST, 0}, {0, LEAST}, {MOST, MOST}};
        for (int[] b : bad) {
            due("4: move(" + b[0] + ", " + b[1] + ")", x.move(b[0], b[1]), BAD);
        }
        due("4: bad ones left no point", x.clear(), 4);
        // The line before is closed as it is: a triangle of three points and a box, none of which meet.
        x.move(0, 0);
        x.line(0, 4 * PIXEL);
        x.line(4 * PIXEL, 0);
        box(x, 5, 5, 7, 7);
        due("4: triangle", x.winding(0, 0), 1);
        due("4: box", x.winding(5, 5), -1);
        due("4: between", x.winding(4, 4), 0);
        due("4: both", x.fill(0, 9), 10);
        // A move alone closes the line, so that what goes on is another one.
        WindingRaster y = new WindingRaster(4, 4);
        y.move(0, 0);
        y.line(0, 2 * PIXEL);
        y.move(2 * PIXEL, 2 * PIXEL);
        y.line(2 * PIXEL, 0);
        due("4: two lines of two points", y.fill(0, 1), 0);
    }

    private static void line() {
        WindingRaster x = new WindingRaster(8, 8);
        due("5: no line", x.line(0, 0), NO);
        due("5: BAD ahead of NO", x.line(FAR + 1, 0), BAD);
        due("5: BAD ahead of NO", x.line(0, LEAST), BAD);
        x.move(0, 0);
        due("5: line", x.line(FAR, FAR), 2);
        due("5: line", x.line(-FAR, -FAR), 3);
        due("5: no place", x.line(-FAR - 1, 0), BAD);
        due("5: no place", x.line(0, FAR + 1), BAD);
        due("5: no place", x.line(MOST, LEAST), BAD);
        due("5: a point twice", x.line(-FAR, -FAR), 4);
        due("5: clear", x.clear(), 4);
        due("5: no line again", x.line(0, 0), NO);
        due("5: still none", x.clear(), 0);
    }

    private static void fullOutline() {
        WindingRaster x = new WindingRaster(2, 2);
        x.move(0, 0);
        for (int i = 2; i <= 4095; i++) {
            due("5: point " + i, x.line(i % 3 * PIXEL, i % 2 * PIXEL), i);
        }
        due("4: last point", x.move(0, 0), 4096);
        due("4: FULL", x.move(0, 0), FULL);
        due("5: FULL", x.line(0, 0), FULL);
        due("4: BAD ahead of FULL", x.move(FAR + 1, 0), BAD);
        due("5: BAD ahead of FULL", x.line(0, FAR + 1), BAD);
        due("6: full outline goes", x.clear(), 4096);
        due("4: room again", x.move(0, 0), 1);
    }

    private static void clear() {
        WindingRaster x = new WindingRaster(4, 4);
        due("6: nothing", x.clear(), 0);
        box(x, 0, 0, 2, 2);
        box(x, 1, 1, 3, 3);
        x.fill(0, 5);
        due("6: both lines", x.clear(), 8);
        due("6: nothing left", x.clear(), 0);
        due("6: winding", x.winding(1, 1), 0);
        due("6: page stays", x.gray(1, 1), 5);
        due("6: clip stays", x.pixels(), 16);
        due("6: begins anew", x.move(0, 0), 1);
        x.line(0, 2 * PIXEL);
        x.line(2 * PIXEL, 0);
        due("6: only the new line", x.fill(0, 6), 1);
    }

    private static void windingOnEdges() {
        WindingRaster x = new WindingRaster(4, 4);
        // Corners on the centres of (1, 1) and (3, 3): left and top belong to it, right and bottom do not.
        x.move(PIXEL + HALF, PIXEL + HALF);
        x.line(PIXEL + HALF, 3 * PIXEL + HALF);
        x.line(3 * PIXEL + HALF, 3 * PIXEL + HALF);
        x.line(3 * PIXEL + HALF, PIXEL + HALF);
        due("7: corner", x.winding(1, 1), 1);
        due("7: left edge", x.winding(1, 2), 1);
        due("7: within", x.winding(2, 2), 1);
        due("7: top edge", x.winding(2, 1), 1);
        due("7: right edge", x.winding(3, 2), 0);
        due("7: bottom edge", x.winding(2, 3), 0);
        due("7: left of it", x.winding(0, 2), 0);
        int[][] none = {{-1, 1}, {4, 1}, {1, -1}, {1, 4}, {LEAST, 1}, {1, LEAST}, {MOST, 1}, {1, MOST}};
        for (int[] n : none) {
            due("7: winding(" + n[0] + ", " + n[1] + ")", x.winding(n[0], n[1]), 0);
        }
        x.clear();
        // The same the other way round, so that the left edge goes up.
        x.move(PIXEL + HALF, 3 * PIXEL + HALF);
        x.line(PIXEL + HALF, PIXEL + HALF);
        x.line(3 * PIXEL + HALF, PIXEL + HALF);
        x.line(3 * PIXEL + HALF, 3 * PIXEL + HALF);
        due("7: corner of the turned one", x.winding(1, 1), -1);
        due("7: top edge of the turned one", x.winding(2, 1), -1);
        due("7: right edge of the turned one", x.winding(3, 2), 0);
        due("7: bottom edge of the turned one", x.winding(1, 3), 0);
        x.clear();
        x.move(0, HALF);
        x.line(4 * PIXEL, 0);
        x.line(4 * PIXEL, HALF);
        due("7: an edge that ends on the centres' height", x.winding(2, 0), 0);
        x.clear();
        // Places 1 / 65536 off the centre decide.
        x.move(HALF + 1, 0);
        x.line(HALF + 1, PIXEL);
        x.line(2 * PIXEL + HALF + 1, PIXEL);
        x.line(2 * PIXEL + HALF + 1, 0);
        due("7: just left of the edge", x.winding(0, 0), 0);
        due("7: just right of the edge", x.winding(1, 0), 1);
        due("7: just left of the other edge", x.winding(2, 0), 1);
        due("7: behind it", x.winding(3, 0), 0);
    }

    private static void windingIsExact() {
        WindingRaster x = new WindingRaster(1, 1);
        // Through the centre of (0, 0), as far as places go: the centre is on the edge and so right of it.
        x.move(FAR, FAR);
        x.line(-FAR, -FAR);
        x.line(-FAR, FAR);
        due("7: on the long edge", x.winding(0, 0), 0);
        due("7: fill on the long edge", x.fill(0, 1), 0);
        x.clear();
        x.move(FAR, FAR);
        x.line(-FAR + 1, -FAR);
        x.line(-FAR, FAR);
        due("7: a hair left of the long edge", x.winding(0, 0), 1);
        due("7: fill left of the long edge", x.fill(1, 2), 1);
        x.clear();
        x.move(FAR, FAR);
        x.line(-FAR, -FAR + 1);
        x.line(-FAR, FAR);
        due("7: a hair right of the long edge", x.winding(0, 0), 0);
        due("7: fill right of the long edge", x.fill(0, 3), 0);
        due("7: gray at last", x.gray(0, 0), 2);
        x.clear();
        // At the centre's height the left edge is a third of 1 / 65536 right of it, or left of it.
        x.move(HALF, HALF - 1);
        x.line(HALF + 1, HALF + 2);
        x.line(FAR, HALF);
        due("7: a third left of an edge", x.winding(0, 0), 0);
        x.clear();
        x.move(HALF, HALF - 1);
        x.line(HALF - 1, HALF + 2);
        x.line(FAR, HALF);
        due("7: a third right of an edge", x.winding(0, 0), 1);
    }

    private static void windingNumbers() {
        WindingRaster x = new WindingRaster(6, 6);
        for (int i = 0; i < 5; i++) {
            box(x, i < 3 ? 1 : 2, 0, 5, 6);
        }
        due("7: three times around", x.winding(1, 3), -3);
        due("7: five times around", x.winding(2, 3), -5);
        x.move(2 * PIXEL, 0);
        x.line(2 * PIXEL, 6 * PIXEL);
        x.line(5 * PIXEL, 6 * PIXEL);
        x.line(5 * PIXEL, 0);
        due("7: one taken back", x.winding(2, 3), -4);
        due("7: rule 1, odd ones below 0", x.fill(1, 1), 6);
        due("7: rule 0", x.fill(0, 2), 24);
        x.clear();
        x.move(0, 0);
        due("7: one point", x.winding(0, 0), 0);
        x.line(0, 6 * PIXEL);
        due("7: two points", x.winding(3, 3), 0);
        x.line(-FAR, 3 * PIXEL);
        due("7: all of it left of the page", x.winding(3, 3), 0);
        x.clear();
        box(x, -8000, -8000, 8000, 8000);
        due("7: all around", x.winding(0, 0), -1);
        due("7: all around", x.winding(5, 5), -1);
        due("7: fill all around", x.fill(1, 4), 36);
        x.clear();
        box(x, 7, 0, 9, 9);
        box(x, 0, 6, 9, 9);
        box(x, -3, 0, 0, 9);
        box(x, 0, -3, 9, 0);
        due("7: off the page on each side", x.fill(0, 5), 0);
    }

    private static void fill() {
        WindingRaster x = new WindingRaster(5, 5);
        due("8: no outline", x.fill(0, 1), 0);
        box(x, 0, 0, 3, 3);
        box(x, 1, 1, 4, 4);
        due("8: rule 1", x.fill(1, 10), 10);
        due("8: rule 0", x.fill(0, 20), 14);
        due("8: again, counted all the same", x.fill(0, 20), 14);
        due("8: the last paint stays", x.gray(0, 0), 20);
        due("8: white outside", x.gray(4, 4), 255);
        int[][] bad = {{2, 0}, {-1, 0}, {LEAST, 0}, {MOST, 0}, {0, 256}, {0, -1}, {1, MOST}, {1, LEAST}, {2, 256}};
        for (int[] b : bad) {
            due("8: fill(" + b[0] + ", " + b[1] + ")", x.fill(b[0], b[1]), BAD);
        }
        due("8: bad ones painted nothing", x.gray(1, 1), 20);
        due("8: gray 0", x.fill(1, 0), 10);
        due("8: rule 1 leaves the middle", x.gray(1, 1), 20);
        due("8: gray 255", x.fill(0, 255), 14);
        due("8: the outline stays", x.clear(), 8);
        box(x, 0, 0, 2, 5);
        x.clip(0);
        x.clear();
        box(x, 1, 1, 5, 3);
        due("8: within the clip", x.fill(0, 77), 2);
        due("8: in the clip", x.gray(1, 1), 77);
        due("8: out of the clip", x.gray(2, 1), 255);
        due("8: the clip stays", x.pixels(), 10);
    }

    private static void clip() {
        WindingRaster x = new WindingRaster(6, 6);
        due("9: bad rule", x.clip(2), BAD);
        due("9: bad rule", x.clip(-1), BAD);
        due("9: bad rule", x.clip(LEAST), BAD);
        due("9: bad ones cut nothing", x.pixels(), 36);
        box(x, 0, 0, 4, 4);
        box(x, 2, 2, 6, 6);
        due("9: rule 0", x.clip(0), 28);
        due("9: runs", x.runs(), 6);
        due("9: rule 1", x.clip(1), 24);
        due("9: runs", x.runs(), 8);
        due("9: never more again", x.clip(0), 24);
        due("9: the outline stays", x.clear(), 8);
        due("9: page untouched", x.gray(0, 0), 255);
        box(x, 0, 2, 6, 3);
        due("9: cut out of the clip", x.clip(0), 4);
        due("9: runs", x.runs(), 2);
        due("9: open", x.open(1, 2), 1);
        due("9: not open", x.open(2, 2), 0);
        x.clear();
        due("9: none without an outline", x.clip(0), 0);
        due("9: runs of none", x.runs(), 0);
        due("9: flood of none", x.flood(3), 0);
    }

    private static void clipRuns() {
        WindingRaster x = new WindingRaster(256, 240);
        x.save();
        stripes(x, 99, 240);
        due("9: 24000 runs in all are not too many", x.clip(0), 23760);
        due("9: 24000 runs", x.runs(), 24000);
        due("9: cut once more", x.clip(1), 23760);
        due("10: FULL of runs", x.save(), FULL);
        due("11: restore", x.restore(), 0);
        due("11: runs", x.runs(), 240);
        due("11: pixels", x.pixels(), 61440);

        WindingRaster y = new WindingRaster(256, 241);
        y.save();
        stripes(y, 99, 240);
        due("9: 24001 runs in all", y.clip(0), FULL);
        due("9: 24001 runs in all", y.clip(1), FULL);
        due("9: the clip stays", y.pixels(), 61696);
        due("9: the runs stay", y.runs(), 482);
        due("9: still open", y.open(1, 0), 1);
        due("8: fill has no such limit", y.fill(0, 1), 23760);
        due("11: restore", y.restore(), 0);
        due("9: now there is room", y.clip(0), 23760);
        due("9: runs", y.runs(), 23760);

        WindingRaster z = new WindingRaster(256, 256);
        stripes(z, 110, 256);
        due("9: more runs than the pile holds", z.clip(0), FULL);
        due("9: the clip stays", z.runs(), 256);
        due("8: fill of as many", z.fill(1, 9), 28160);
        due("8: painted", z.gray(218, 255), 9);
        due("8: not painted", z.gray(219, 255), 255);
    }

    private static void save() {
        WindingRaster x = new WindingRaster(3, 2);
        for (int i = 1; i <= 12; i++) {
            due("10: save " + i, x.save(), i);
            due("10: runs", x.runs(), 2 * (i + 1));
        }
        due("10: FULL of clips", x.save(), FULL);
        due("10: runs stay", x.runs(), 26);
        due("11: restore", x.restore(), 11);
        due("10: room again", x.save(), 12);
        WindingRaster y = new WindingRaster(4, 4);
        y.clip(0);
        due("10: an empty clip", y.save(), 1);
        due("10: has no runs", y.runs(), 0);
    }

    private static void saveRuns() {
        WindingRaster x = new WindingRaster(256, 240);
        stripes(x, 50, 240);
        due("10: half of the runs", x.clip(0), 12000);
        due("10: 24000 runs in all", x.save(), 1);
        due("10: 24000 runs", x.runs(), 24000);
        due("10: FULL", x.save(), FULL);
        due("10: the clip stays", x.pixels(), 12000);
        due("11: restore", x.restore(), 0);
        due("11: runs", x.runs(), 12000);

        WindingRaster y = new WindingRaster(256, 241);
        stripes(y, 50, 240);
        box(y, 0, 240, 9, 241);
        due("10: one run more than half", y.clip(0), 12009);
        due("10: runs", y.runs(), 12001);
        due("10: FULL with none saved", y.save(), FULL);
        due("10: runs stay", y.runs(), 12001);
        due("11: nothing was saved", y.restore(), NO);

        WindingRaster z = new WindingRaster(256, 241);
        z.save();
        stripes(z, 49, 240);
        box(z, 250, 0, 251, 120);
        due("10: 11880 runs beside 241", z.clip(0), 11880);
        due("10: 24001 runs in all", z.save(), FULL);
        due("10: runs stay", z.runs(), 12121);
        due("11: only one was saved", z.restore(), 0);
    }

    private static void restore() {
        WindingRaster x = new WindingRaster(6, 6);
        due("11: none", x.restore(), NO);
        x.save();
        box(x, 0, 0, 5, 5);
        x.clip(0);
        x.save();
        x.clear();
        box(x, 1, 1, 3, 3);
        due("11: cut", x.clip(0), 4);
        due("11: runs of three", x.runs(), 6 + 5 + 2);
        x.flood(8);
        due("11: back", x.restore(), 1);
        due("11: pixels", x.pixels(), 25);
        due("11: runs of two", x.runs(), 11);
        due("11: open", x.open(4, 4), 1);
        due("11: not open", x.open(5, 4), 0);
        due("11: the page stays", x.gray(1, 1), 8);
        due("11: the outline stays", x.winding(1, 1), -1);
        due("11: back again", x.restore(), 0);
        due("11: pixels", x.pixels(), 36);
        due("11: runs of one", x.runs(), 6);
        due("11: none again", x.restore(), NO);
        due("11: the clip stays", x.pixels(), 36);
        x.clip(0);
        x.save();
        x.clear();
        x.clip(0);
        due("11: empty", x.pixels(), 0);
        x.restore();
        due("11: the saved one was not cut", x.pixels(), 4);
    }

    private static void gray() {
        WindingRaster x = new WindingRaster(3, 2);
        due("12: white", x.gray(2, 1), 255);
        x.flood(128);
        due("12: first", x.gray(0, 0), 128);
        due("12: last", x.gray(2, 1), 128);
        int[][] none = {{-1, 0}, {3, 0}, {0, -1}, {0, 2}, {LEAST, 0}, {0, LEAST}, {MOST, 0}, {0, MOST}, {3, 2}};
        for (int[] n : none) {
            due("12: gray(" + n[0] + ", " + n[1] + ")", x.gray(n[0], n[1]), BAD);
            due("13: open(" + n[0] + ", " + n[1] + ")", x.open(n[0], n[1]), BAD);
        }
    }

    private static void openAndPixels() {
        WindingRaster x = new WindingRaster(5, 4);
        box(x, 1, 1, 3, 3);
        due("14: all", x.pixels(), 20);
        x.clip(0);
        due("14: some", x.pixels(), 4);
        for (int row = 0; row < 4; row++) {
            for (int column = 0; column < 5; column++) {
                boolean in = column >= 1 && column < 3 && row >= 1 && row < 3;
                due("13: open(" + column + ", " + row + ")", x.open(column, row), in ? 1 : 0);
            }
        }
        x.clear();
        x.clip(1);
        due("14: none", x.pixels(), 0);
        due("13: none is open", x.open(1, 1), 0);
    }

    private static void runs() {
        WindingRaster x = new WindingRaster(9, 3);
        due("15: one for each row", x.runs(), 3);
        box(x, 0, 0, 1, 3);
        box(x, 2, 0, 3, 2);
        box(x, 3, 0, 4, 3);
        box(x, 8, 2, 9, 3);
        x.clip(0);
        // Boxes that touch make one run; runs of two rows never are one.
        due("15: rows of 2, 2 and 3", x.runs(), 7);
        x.save();
        due("15: the saved one too", x.runs(), 14);
        x.clear();
        x.clip(0);
        due("15: the saved one alone", x.runs(), 7);
        x.save();
        due("15: an empty one saved", x.runs(), 7);
        x.restore();
        x.restore();
        due("15: back", x.runs(), 7);
    }

    private static void count() {
        WindingRaster x = new WindingRaster(6, 3);
        box(x, 1, 1, 4, 2);
        x.fill(0, 30);
        due("16: painted", x.count(1, 30), 3);
        due("16: white", x.count(1, 255), 3);
        due("16: another row", x.count(0, 30), 0);
        x.clip(0);
        due("16: in the clip or not", x.count(1, 255), 3);
        due("16: in the clip or not", x.count(2, 255), 6);
        due("16: no gray", x.count(1, 256), 0);
        due("16: no gray", x.count(1, -1), 0);
        due("16: no gray", x.count(1, LEAST), 0);
        due("16: no gray", x.count(1, 30 + 256), 0);
        due("16: no row", x.count(-1, 255), BAD);
        due("16: no row", x.count(3, 255), BAD);
        due("16: no row", x.count(LEAST, 255), BAD);
        due("16: no row", x.count(MOST, 255), BAD);
        due("16: neither row nor gray", x.count(3, 256), BAD);
    }

    private static void flood() {
        WindingRaster x = new WindingRaster(5, 5);
        due("17: all", x.flood(0), 25);
        due("17: gray", x.gray(4, 4), 0);
        box(x, 0, 0, 2, 3);
        x.clip(0);
        due("17: the clip", x.flood(200), 6);
        due("17: again", x.flood(200), 6);
        due("17: in it", x.gray(1, 2), 200);
        due("17: out of it", x.gray(2, 2), 0);
        due("17: below it", x.gray(1, 3), 0);
        due("17: no gray", x.flood(256), BAD);
        due("17: no gray", x.flood(-1), BAD);
        due("17: no gray", x.flood(LEAST), BAD);
        due("17: no gray", x.flood(MOST), BAD);
        due("17: nothing painted", x.gray(0, 0), 200);
        due("17: white again", x.flood(255), 6);
        due("17: white", x.gray(0, 0), 255);
        due("17: the outline does not matter", x.clear(), 4);
        due("17: without an outline", x.flood(1), 6);
        x.save();
        x.clip(0);
        due("17: an empty clip, with another one saved", x.flood(2), 0);
        due("17: the saved one is not painted", x.gray(0, 0), 1);
    }

    public static void main(String[] args) {
        newObject();
        sizesStay();
        move();
        line();
        fullOutline();
        clear();
        windingOnEdges();
        windingIsExact();
        windingNumbers();
        fill();
        clip();
        clipRuns();
        save();
        saveRuns();
        restore();
        gray();
        openAndPixels();
        runs();
        count();
        flood();
        System.out.println(wrong == 0 ? "all answers are as due" : wrong + " answers are not as due");
        if (wrong != 0) {
            System.exit(1);
        }
    }
}
