import java.util.Arrays;

/**
 * Fills closed outlines on a page of gray pixels, by the exact winding number
 * of each pixel's centre, within clips that can be saved and gone back to.
 */
public final class WindingRaster {
    public static final int BAD = -1;
    public static final int NO = -2;
    public static final int FULL = -3;

    private static final int MOST_COLUMNS = 256;
    private static final int MOST_ROWS = 256;
    private static final int WHITE = 255;
    private static final int FARTHEST_PLACE = 536870912;
    private static final int MOST_POINTS = 4096;
    private static final int MOST_SAVED = 12;
    private static final int MOST_RUNS = 24000;
    private static final int PIXEL_BITS = 16;
    private static final int HALF_PIXEL = 32768;

    private final int columns;
    private final int rows;
    private final int[] grays;
    private final Outline outline;
    private final ClipPile clips;
    // Made once and used by every fill and clip, so that no call makes objects.
    private final int[] windings;
    private final RunList pieces;

    public WindingRaster(int columns, int rows) {
        this.columns = Math.max(1, Math.min(MOST_COLUMNS, columns));
        this.rows = Math.max(1, Math.min(MOST_ROWS, rows));
        this.grays = new int[this.columns * this.rows];
        Arrays.fill(this.grays, WHITE);
        this.outline = new Outline();
        this.clips = new ClipPile(this.columns, this.rows);
        this.windings = new int[this.columns];
        // Between two runs of a row lies a pixel at least: a row has no more of them.
        this.pieces = new RunList((this.columns + 1) / 2 * this.rows);
    }

    public int columns() {
        return columns;
    }

    public int rows() {
        return rows;
    }

    public int move(int x, int y) {
        if (!isPlace(x) || !isPlace(y)) {
            return BAD;
        }
        if (outline.isFull()) {
            return FULL;
        }
        outline.begin(x, y);
        return outline.size;
    }

    public int line(int x, int y) {
        if (!isPlace(x) || !isPlace(y)) {
            return BAD;
        }
        if (!outline.hasLine()) {
            return NO;
        }
        if (outline.isFull()) {
            return FULL;
        }
        outline.goOn(x, y);
        return outline.size;
    }

    public int clear() {
        int had = outline.size;
        outline.forget();
        return had;
    }

    public int winding(int column, int row) {
        return hasPixel(column, row) ? outline.windingAt(column, row) : 0;
    }

    public int fill(int rule, int gray) {
        if (!isRule(rule) || !isGray(gray)) {
            return BAD;
        }
        cutClip(rule);
        return paint(pieces.items, 0, pieces.size, gray);
    }

    public int clip(int rule) {
        if (!isRule(rule)) {
            return BAD;
        }
        cutClip(rule);
        return clips.replace(pieces) ? clips.pixelCount() : FULL;
    }

    public int save() {
        return clips.push() ? clips.saved : FULL;
    }

    public int restore() {
        return clips.pop() ? clips.saved : NO;
    }

    public int gray(int column, int row) {
        return hasPixel(column, row) ? grays[row * columns + column] : BAD;
    }

    public int open(int column, int row) {
        if (!hasPixel(column, row)) {
            return BAD;
        }
        return clips.has(column, row) ? 1 : 0;
    }

    public int pixels() {
        return clips.pixelCount();
    }

    public int runs() {
        return clips.end;
    }

    public int count(int row, int gray) {
        if (!hasPixel(0, row)) {
            return BAD;
        }
        int found = 0;
        for (int column = 0; column < columns; column++) {
            if (grays[row * columns + column] == gray) {
                found++;
            }
        }
        return found;
    }

    public int flood(int gray) {
        if (!isGray(gray)) {
            return BAD;
        }
        return paint(clips.items, clips.start(), clips.end, gray);
    }

    private static boolean isPlace(int number) {
        return number >= -FARTHEST_PLACE && number <= FARTHEST_PLACE;
    }

    private static boolean isRule(int number) {
        return number == 0 || number == 1;
    }

    private static boolean isGray(int number) {
        return number >= 0 && number <= WHITE;
    }

    private static boolean isInside(int winding, int rule) {
        return rule == 0 ? winding != 0 : (winding & 1) != 0;
    }

    private boolean hasPixel(int column, int row) {
        return column >= 0 && column < columns && row >= 0 && row < rows;
    }

    /** Leaves in pieces the runs of the clip's pixels that are inside the outline. */
    private void cutClip(int rule) {
        pieces.size = 0;
        int row = -1;
        boolean crossed = false;
        for (int i = clips.start(); i < clips.end; i++) {
            int run = clips.runAt(i);
            if (Run.rowOf(run) != row) {
                row = Run.rowOf(run);
                crossed = outline.windRow(row, windings);
            }
            // Most rows of a large page lie outside a small outline.
            if (crossed) {
                cutRun(run, rule);
            }
        }
    }

    private void cutRun(int run, int rule) {
        int row = Run.rowOf(run);
        int end = Math.min(Run.endOf(run), windings.length);
        int from = -1;
        for (int column = Run.fromOf(run); column < end; column++) {
            boolean inside = isInside(windings[column], rule);
            if (inside && from < 0) {
                from = column;
            }
            if (!inside && from >= 0) {
                pieces.add(Run.of(row, from, column));
                from = -1;
            }
        }
        if (from >= 0) {
            pieces.add(Run.of(row, from, end));
        }
    }

    private int paint(int[] items, int start, int end, int gray) {
        int painted = 0;
        for (int i = Math.max(0, start); i < end && i < items.length; i++) {
            paintRun(items[i], gray);
            painted += Run.lengthOf(items[i]);
        }
        return painted;
    }

    private void paintRun(int run, int gray) {
        int first = Run.rowOf(run) * columns + Run.fromOf(run);
        int behind = Math.min(first + Run.lengthOf(run), grays.length);
        for (int i = Math.max(0, first); i < behind; i++) {
            grays[i] = gray;
        }
    }

    /** A run as one number: its row, its first column, and the column behind its last one. */
    private static final class Run {
        private static final int BITS = 9;
        private static final int MASK = 511;

        private Run() {
        }

        private static int of(int row, int from, int end) {
            return (((row << BITS) | from) << BITS) | end;
        }

        private static int rowOf(int run) {
            return run >> (2 * BITS);
        }

        private static int fromOf(int run) {
            return (run >> BITS) & MASK;
        }

        private static int endOf(int run) {
            return run & MASK;
        }

        private static int lengthOf(int run) {
            return endOf(run) - fromOf(run);
        }
    }

    /** Runs by rows and columns, as many as there is room for. */
    private static final class RunList {
        private final int[] items;
        private int size;

        private RunList(int room) {
            items = new int[Math.max(0, room)];
        }

        private void add(int run) {
            if (size < items.length) {
                items[size] = run;
                size++;
            }
        }
    }

    /** The runs of all clips in one row: those of the saved ones, the oldest first, then the present one's. */
    private static final class ClipPile {
        private final int[] items = new int[MOST_RUNS];
        // Where each saved clip starts, and behind them where the present one does.
        private final int[] starts = new int[MOST_SAVED + 1];
        private int saved;
        private int end;

        private ClipPile(int columns, int rows) {
            for (int row = 0; row < rows && row < MOST_RUNS; row++) {
                items[row] = Run.of(row, 0, columns);
            }
            end = Math.min(rows, MOST_RUNS);
        }

        private int start() {
            return saved >= 0 && saved < starts.length ? starts[saved] : 0;
        }

        /** A run, or an empty one where there is none. */
        private int runAt(int place) {
            return place >= 0 && place < end && place < items.length ? items[place] : 0;
        }

        private boolean push() {
            int size = end - start();
            if (saved < 0 || saved >= MOST_SAVED || !copyRuns(items, start(), size, end)) {
                return false;
            }
            saved++;
            starts[saved] = end;
            end += size;
            return true;
        }

        private boolean pop() {
            if (saved <= 0) {
                return false;
            }
            end = start();
            saved--;
            return true;
        }

        private boolean replace(RunList list) {
            if (!copyRuns(list.items, 0, list.size, start())) {
                return false;
            }
            end = start() + list.size;
            return true;
        }

        /** False, with nothing copied, when there is no room for so many. */
        private boolean copyRuns(int[] from, int start, int size, int to) {
            if (start < 0 || size < 0 || to < 0 || size > from.length - start || size > items.length - to) {
                return false;
            }
            System.arraycopy(from, start, items, to, size);
            return true;
        }

        private boolean has(int column, int row) {
            for (int i = start(); i < end; i++) {
                int run = runAt(i);
                if (Run.rowOf(run) == row && Run.fromOf(run) <= column && column < Run.endOf(run)) {
                    return true;
                }
            }
            return false;
        }

        private int pixelCount() {
            int sum = 0;
            for (int i = start(); i < end; i++) {
                sum += Run.lengthOf(runAt(i));
            }
            return sum;
        }
    }

    /** Closed lines of points; each point has one edge, which goes to its next point. */
    private static final class Outline {
        private final int[] xs = new int[MOST_POINTS];
        private final int[] ys = new int[MOST_POINTS];
        private final int[] next = new int[MOST_POINTS];
        private int size;
        private int lineStart;

        private boolean isFull() {
            return size >= MOST_POINTS;
        }

        private boolean hasLine() {
            return size > 0;
        }

        private void begin(int x, int y) {
            lineStart = size;
            addPoint(x, y);
        }

        private void goOn(int x, int y) {
            if (hasLine() && !isFull()) {
                next[size - 1] = size;
                addPoint(x, y);
            }
        }

        private void addPoint(int x, int y) {
            if (!isFull()) {
                xs[size] = x;
                ys[size] = y;
                // The line is always closed: its last point goes back to its first one.
                next[size] = lineStart;
                size++;
            }
        }

        private void forget() {
            size = 0;
            lineStart = 0;
        }

        private int windingAt(int column, int row) {
            int y = centreOf(row);
            int sum = 0;
            for (int i = 0; i < size; i++) {
                int step = stepAt(i, y);
                if (step != 0 && firstColumn(i, y) <= column) {
                    sum += step;
                }
            }
            return sum;
        }

        /** Leaves the winding numbers of a row's centres; false when no edge crosses the row. */
        private boolean windRow(int row, int[] windings) {
            int y = centreOf(row);
            boolean crossed = false;
            Arrays.fill(windings, 0);
            for (int i = 0; i < size; i++) {
                int step = stepAt(i, y);
                if (step != 0) {
                    crossed = true;
                    int column = Math.max(0, firstColumn(i, y));
                    if (column < windings.length) {
                        windings[column] += step;
                    }
                }
            }
            for (int column = 1; column < windings.length; column++) {
                windings[column] += windings[column - 1];
            }
            return crossed;
        }

        private static int centreOf(int row) {
            return (row << PIXEL_BITS) + HALF_PIXEL;
        }

        private boolean hasEdge(int point) {
            return point >= 0 && point < size && size <= MOST_POINTS && next[point] >= 0 && next[point] < size;
        }

        /** What a point's edge adds to the winding numbers right of it at y. */
        private int stepAt(int point, int y) {
            if (!hasEdge(point)) {
                return 0;
            }
            int b = ys[point];
            int d = ys[next[point]];
            if (b <= y && y < d) {
                return 1;
            }
            return d <= y && y < b ? -1 : 0;
        }

        /** The first column whose centre is not left of a point's edge at y; it may lie off the page. */
        private int firstColumn(int point, int y) {
            if (!hasEdge(point)) {
                return MOST_COLUMNS;
            }
            long a = xs[point];
            long b = ys[point];
            long width = xs[next[point]] - a;
            long height = ys[next[point]] - b;
            if (height == 0) {
                return MOST_COLUMNS;
            }
            // Centres are whole numbers: the edge's place may be rounded up to one and stays exact for them.
            long place = a - Math.floorDiv(-width * (y - b), height);
            return (int) ((place + HALF_PIXEL - 1) >> PIXEL_BITS);
        }
    }
}
