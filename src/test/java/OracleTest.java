import java.util.ArrayDeque;
import java.util.ArrayList;
import java.util.Arrays;
import java.util.Deque;
import java.util.List;
import java.util.Random;

/** Long runs of calls, each answer held against a slow model written straight from the document's terms. */
public final class OracleTest {
    private static final int BAD = -1;
    private static final int NO = -2;
    private static final int FULL = -3;
    private static final int PIXEL = 65536;
    private static final int FAR = 536870912;
    private static final int CALLS = 512;

    private static int wrong = 0;
    private static int clipsFull = 0;
    private static int savesFull = 0;

    /** The document's terms: lines of points, sets of pixels, a pile of sets. */
    private static final class Model {
        final int columns;
        final int rows;
        final int[][] page;
        final List<List<int[]>> lines = new ArrayList<>();
        boolean[][] clip;
        final Deque<boolean[][]> saved = new ArrayDeque<>();

        Model(int columns, int rows) {
            this.columns = Math.min(256, Math.max(1, columns));
            this.rows = Math.min(256, Math.max(1, rows));
            page = new int[this.rows][this.columns];
            clip = new boolean[this.rows][this.columns];
            for (int row = 0; row < this.rows; row++) {
                Arrays.fill(page[row], 255);
                Arrays.fill(clip[row], true);
            }
        }

        int points() {
            return lines.stream().mapToInt(List::size).sum();
        }

        int add(boolean begins, int x, int y) {
            if (Math.abs((long) x) > FAR || Math.abs((long) y) > FAR) {
                return BAD;
            }
            if (!begins && lines.isEmpty()) {
                return NO;
            }
            if (points() == 4096) {
                return FULL;
            }
            if (begins) {
                lines.add(new ArrayList<>());
            }
            lines.get(lines.size() - 1).add(new int[] {x, y});
            return points();
        }

        int forget() {
            int had = points();
            lines.clear();
            return had;
        }

        boolean has(int column, int row) {
            return 0 <= column && column < columns && 0 <= row && row < rows;
        }

        int winding(int column, int row) {
            if (!has(column, row)) {
                return 0;
            }
            int x = PIXEL * column + PIXEL / 2;
            int y = PIXEL * row + PIXEL / 2;
            int sum = 0;
            for (List<int[]> line : lines) {
                for (int i = 0; i < line.size(); i++) {
                    int[] from = line.get(i);
                    int[] to = line.get((i + 1) % line.size());
                    if (from[1] <= y && y < to[1] && notRightOf(from, to, x, y)) {
                        sum++;
                    } else if (to[1] <= y && y < from[1] && notRightOf(to, from, x, y)) {
                        sum--;
                    }
                }
            }
            return sum;
        }

        /** Whether the edge, its upper point first, is at y not right of x. */
        static boolean notRightOf(int[] top, int[] low, int x, int y) {
            long edge = Math.multiplyExact((long) low[0] - top[0], (long) y - top[1]);
            long place = Math.multiplyExact((long) x - top[0], (long) low[1] - top[1]);
            return edge <= place;
        }

        boolean inside(int column, int row, int rule) {
            int number = winding(column, row);
            return rule == 0 ? number != 0 : number % 2 != 0;
        }

        boolean[][] cut(int rule) {
            boolean[][] set = new boolean[rows][columns];
            for (int row = 0; row < rows; row++) {
                for (int column = 0; column < columns; column++) {
                    set[row][column] = clip[row][column] && inside(column, row, rule);
                }
            }
            return set;
        }

        int paint(boolean[][] set, int gray) {
            for (int row = 0; row < rows; row++) {
                for (int column = 0; column < columns; column++) {
                    if (set[row][column]) {
                        page[row][column] = gray;
                    }
                }
            }
            return size(set);
        }

        int fill(int rule, int gray) {
            boolean bad = rule < 0 || rule > 1 || gray < 0 || gray > 255;
            return bad ? BAD : paint(cut(rule), gray);
        }

        int flood(int gray) {
            return gray < 0 || gray > 255 ? BAD : paint(clip, gray);
        }

        int cutClip(int rule) {
            if (rule < 0 || rule > 1) {
                return BAD;
            }
            boolean[][] set = cut(rule);
            if (savedRuns() + runsOf(set) > 24000) {
                return FULL;
            }
            clip = set;
            return size(clip);
        }

        int save() {
            if (saved.size() == 12 || savedRuns() + 2 * runsOf(clip) > 24000) {
                return FULL;
            }
            saved.push(clip);
            return saved.size();
        }

        int restore() {
            if (saved.isEmpty()) {
                return NO;
            }
            clip = saved.pop();
            return saved.size();
        }

        int runs() {
            return savedRuns() + runsOf(clip);
        }

        int savedRuns() {
            return saved.stream().mapToInt(Model::runsOf).sum();
        }

        static int runsOf(boolean[][] set) {
            int found = 0;
            for (boolean[] row : set) {
                for (int column = 0; column < row.length; column++) {
                    found += row[column] && (column == 0 || !row[column - 1]) ? 1 : 0;
                }
            }
            return found;
        }

        static int size(boolean[][] set) {
            int found = 0;
            for (boolean[] row : set) {
                for (boolean in : row) {
                    found += in ? 1 : 0;
                }
            }
            return found;
        }

        int gray(int column, int row) {
            return has(column, row) ? page[row][column] : BAD;
        }

        int open(int column, int row) {
            return has(column, row) ? clip[row][column] ? 1 : 0 : BAD;
        }

        int count(int row, int gray) {
            return has(0, row) ? (int) Arrays.stream(page[row]).filter(g -> g == gray).count() : BAD;
        }
    }

    /** One run: a new object beside a new model, and as many calls as the document allows. */
    private static final class Run {
        final String name;
        final Random random;
        final WindingRaster raster;
        final Model model;
        final int spread;
        int calls = 0;

        Run(String name, int seed, int columns, int rows, int spread) {
            this.name = name + " " + seed;
            this.random = new Random(seed);
            this.raster = new WindingRaster(columns, rows);
            this.model = new Model(columns, rows);
            this.spread = spread;
        }

        void due(String call, int got, int want) {
            calls++;
            if (got != want && wrong++ < 50) {
                System.out.println(name + ", call " + calls + ": " + call + " answered " + got + ", due is " + want);
            }
        }

        void move(int x, int y) {
            due("move(" + x + ", " + y + ")", raster.move(x, y), model.add(true, x, y));
        }

        void line(int x, int y) {
            due("line(" + x + ", " + y + ")", raster.line(x, y), model.add(false, x, y));
        }

        void clear() {
            due("clear()", raster.clear(), model.forget());
        }

        void winding(int column, int row) {
            due("winding(" + column + ", " + row + ")", raster.winding(column, row), model.winding(column, row));
        }

        void fill(int rule, int gray) {
            due("fill(" + rule + ", " + gray + ")", raster.fill(rule, gray), model.fill(rule, gray));
        }

        void clip(int rule) {
            int want = model.cutClip(rule);
            clipsFull += want == FULL ? 1 : 0;
            due("clip(" + rule + ")", raster.clip(rule), want);
        }

        void save() {
            int want = model.save();
            savesFull += want == FULL ? 1 : 0;
            due("save()", raster.save(), want);
        }

        void restore() {
            due("restore()", raster.restore(), model.restore());
        }

        void look() {
            int column = random.nextInt(model.columns + 2) - 1;
            int row = random.nextInt(model.rows + 2) - 1;
            int gray = gray();
            switch (random.nextInt(8)) {
                case 0 -> winding(column, row);
                case 1 -> due("gray(" + column + ", " + row + ")", raster.gray(column, row), model.gray(column, row));
                case 2 -> due("open(" + column + ", " + row + ")", raster.open(column, row), model.open(column, row));
                case 3 -> due("pixels()", raster.pixels(), Model.size(model.clip));
                case 4 -> due("runs()", raster.runs(), model.runs());
                case 5 -> due("count(" + row + ", " + gray + ")", raster.count(row, gray), model.count(row, gray));
                case 6 -> due("columns()", raster.columns(), model.columns);
                default -> due("rows()", raster.rows(), model.rows);
            }
        }

        int gray() {
            return random.nextInt(20) == 0 ? random.nextInt(600) - 300 : random.nextInt(4) * 85;
        }

        int rule() {
            return random.nextInt(20) == 0 ? random.nextInt(7) - 3 : random.nextInt(2);
        }

        /** Places on the page's half pixels, where many are ties, or a hair beside, or anywhere. */
        int place(int pixels) {
            int half = (random.nextInt(2 * pixels + 5) - 2) * (PIXEL / 2);
            return switch (spread) {
                case 0 -> half;
                case 1 -> half + random.nextInt(3) - 1;
                case 2 -> random.nextInt((pixels + 2) * PIXEL) - PIXEL;
                default -> random.nextInt(30) == 0 ? random.nextInt() : random.nextInt(2 * FAR + 1) - FAR;
            };
        }

        void anyCall() {
            int kind = random.nextInt(100);
            if (kind < 8) {
                move(place(model.columns), place(model.rows));
            } else if (kind < 38) {
                line(place(model.columns), place(model.rows));
            } else if (kind < 41) {
                clear();
            } else if (kind < 50) {
                fill(rule(), gray());
            } else if (kind < 55) {
                clip(rule());
            } else if (kind < 61) {
                save();
            } else if (kind < 67) {
                restore();
            } else if (kind < 70) {
                int gray = gray();
                due("flood(" + gray + ")", raster.flood(gray), model.flood(gray));
            } else {
                look();
            }
        }

        void finish() {
            for (int row = 0; row < model.rows; row++) {
                for (int column = 0; column < model.columns; column++) {
                    String at = "(" + column + ", " + row + ") at the end";
                    due("gray" + at, raster.gray(column, row), model.gray(column, row));
                    due("open" + at, raster.open(column, row), model.open(column, row));
                }
            }
            due("runs() at the end", raster.runs(), model.runs());
            due("pixels() at the end", raster.pixels(), Model.size(model.clip));
        }
    }

    private static void anyRuns() {
        for (int seed = 0; seed < 240; seed++) {
            Random sizes = new Random(seed);
            int limit = seed % 3 == 0 ? 4 : 24;
            Run run = new Run("any", seed, sizes.nextInt(limit) - 1, sizes.nextInt(limit) - 1, seed % 4);
            while (run.calls < CALLS) {
                run.anyCall();
            }
            run.finish();
        }
    }

    /** Many runs on a large page, so that clips and saves come to their limit. */
    private static void stripedRuns() {
        for (int seed = 0; seed < 8; seed++) {
            Run run = new Run("stripes", seed, 256, 200 + seed * 8, 0);
            int saves = run.random.nextInt(3);
            for (int i = 0; i < saves; i++) {
                run.save();
            }
            int width = 3;
            int stripes = 36 + run.random.nextInt(9);
            for (int i = 0; i < stripes; i++) {
                int left = i * 5 * PIXEL;
                stripe(run, i == 0, left, left + width * PIXEL);
            }
            run.clip(0);
            for (int i = 0; i < 3; i++) {
                run.save();
                run.look();
            }
            run.clear();
            for (int i = 0; i < stripes; i++) {
                int left = i * 5 * PIXEL;
                stripe(run, i == 0, left - PIXEL, left + PIXEL);
                stripe(run, false, left + 2 * PIXEL, left + 3 * PIXEL);
            }
            run.clip(1);
            run.fill(0, 40);
            run.look();
            run.restore();
            run.clip(1);
            run.save();
            run.clip(0);
            run.finish();
        }
    }

    private static void stripe(Run run, boolean first, int left, int right) {
        int bottom = run.model.rows * PIXEL;
        if (first) {
            run.move(left, 0);
        } else {
            run.line(left, 0);
        }
        run.line(left, bottom);
        run.line(right, bottom);
        run.line(right, 0);
    }

    public static void main(String[] args) {
        anyRuns();
        stripedRuns();
        if (clipsFull == 0 || savesFull == 0) {
            wrong++;
            System.out.println("no run came to a limit: " + clipsFull + " clips, " + savesFull + " saves");
        }
        System.out.println(wrong == 0 ? "all answers are as due" : wrong + " answers are not as due");
        if (wrong != 0) {
            System.exit(1);
        }
    }
}
