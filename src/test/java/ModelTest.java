import java.util.ArrayList;
import java.util.Collections;
import java.util.Comparator;
import java.util.List;
import java.util.NoSuchElementException;
import java.util.Random;

/** Runs of mixed calls from fixed seeds, compared with a plain second model of the document. */
public final class ModelTest {
    private static final int RUNS = 400;
    private static final int CALLS = 512;
    private static final int NAMES = 25;

    /** The document once more, kept as one long list of leaves and searched anew each time. */
    private static final class Model {
        static final class Leaf {
            int order;
            int copy;
            int frame;
            int shows;
            int sheet;
            int cell;
            boolean spoiled;
        }

        static final class Sheet {
            List<Integer> pile;
            String state = "waits";
            int trim = -1;
        }

        final List<List<int[]>> books = new ArrayList<>();
        final List<int[]> orders = new ArrayList<>();
        final int[][] bound = new int[5][3];
        final List<Leaf> leaves = new ArrayList<>();
        final List<Sheet> sheets = new ArrayList<>();
        final int[] dull = new int[2];
        int[] folds = {1, 1, 2};
        int tolerance = 2;

        Model() {
            for (int[] row : bound) {
                java.util.Arrays.fill(row, -1);
            }
        }

        static void index(boolean fine) {
            if (!fine) {
                throw new IndexOutOfBoundsException();
            }
        }

        static void argument(boolean fine) {
            if (!fine) {
                throw new IllegalArgumentException();
            }
        }

        static void state(boolean fine) {
            if (!fine) {
                throw new IllegalStateException();
            }
        }

        static void element(boolean fine) {
            if (!fine) {
                throw new NoSuchElementException();
            }
        }

        static boolean in(int value, int least, int greatest) {
            return least <= value && value <= greatest;
        }

        void hasBook(int book) {
            index(in(book, 0, books.size() - 1));
        }

        void hasOrder(int order) {
            index(in(order, 0, orders.size() - 1));
        }

        void hasCopy(int order, int copy) {
            hasOrder(order);
            index(in(copy, 0, orders.get(order)[1] - 1));
        }

        List<Integer> row(int book) {
            List<Integer> row = new ArrayList<>();
            List<int[]> drawings = books.get(book);
            for (int i = 0; i < drawings.size(); i++) {
                int[] here = drawings.get(i);
                row.add(here[0]);
                if (i == drawings.size() - 1) {
                    break;
                }
                int n = here[1] + 1;
                for (int j = 1; j <= here[1]; j++) {
                    row.add(here[0] + between(drawings.get(i + 1)[0] - here[0], j, n, here[2]));
                }
            }
            return row;
        }

        static int between(int way, int j, int n, int curve) {
            long p;
            long q = (long) n * n;
            if (curve == 0) {
                p = j;
                q = n;
            } else if (curve == 1) {
                p = (long) j * j;
            } else if (curve == 2) {
                p = (long) n * n - (long) (n - j) * (n - j);
            } else if (2 * j <= n) {
                p = 2L * j * j;
            } else {
                p = (long) n * n - 2L * (n - j) * (n - j);
            }
            long size = Math.abs(way) * p / q;
            return (int) (way < 0 ? -size : size);
        }

        List<Integer> row(int order, int copy) {
            List<Integer> row = row(orders.get(order)[0]);
            if (bound[order][copy] < 0) {
                return row;
            }
            return new ArrayList<>(Collections.nCopies(bound[order][copy], 0));
        }

        Leaf useful(int order, int copy, int frame) {
            for (Leaf leaf : leaves) {
                if (leaf.order == order && leaf.copy == copy && leaf.frame == frame && !leaf.spoiled) {
                    return leaf;
                }
            }
            return null;
        }

        int spoil(int book) {
            List<Integer> row = row(book);
            int count = 0;
            for (Leaf leaf : leaves) {
                boolean open = orders.get(leaf.order)[0] == book && bound[leaf.order][leaf.copy] < 0;
                if (open && !leaf.spoiled && (leaf.frame >= row.size() || row.get(leaf.frame) != leaf.shows)) {
                    leaf.spoiled = true;
                    count++;
                }
            }
            return count;
        }

        List<int[]> lack() {
            List<Integer> turn = new ArrayList<>();
            for (int i = 0; i < orders.size(); i++) {
                turn.add(i);
            }
            turn.sort(Comparator.<Integer>comparingInt(o -> -row(orders.get(o)[0]).size()).thenComparingInt(o -> o));
            List<int[]> lack = new ArrayList<>();
            for (int order : turn) {
                List<Integer> row = row(orders.get(order)[0]);
                for (int copy = 0; copy < orders.get(order)[1]; copy++) {
                    for (int frame = 0; frame < row.size() && bound[order][copy] < 0; frame++) {
                        if (useful(order, copy, frame) == null) {
                            lack.add(new int[] {order, copy, frame, row.get(frame)});
                        }
                    }
                }
            }
            return lack;
        }

        /** Folds a grid of piles by building the halved grid anew. */
        static List<Integer> pile(int[] folds) {
            List<List<List<Integer>>> grid = new ArrayList<>();
            for (int r = 0; r < 2; r++) {
                List<List<Integer>> line = new ArrayList<>();
                for (int c = 0; c < 4; c++) {
                    line.add(List.of(r * 4 + c));
                }
                grid.add(line);
            }
            for (int fold : folds) {
                grid = fold <= 1 ? sideways(grid, fold == 1) : upright(grid, fold == 2);
            }
            return grid.get(0).get(0);
        }

        static List<List<List<Integer>>> sideways(List<List<List<Integer>>> grid, boolean right) {
            List<List<List<Integer>>> folded = new ArrayList<>();
            for (List<List<Integer>> line : grid) {
                List<List<Integer>> half = new ArrayList<>();
                int n = line.size();
                for (int c = 0; c < n / 2; c++) {
                    int stays = right ? c : n / 2 + c;
                    half.add(onTop(line.get(n - 1 - stays), line.get(stays)));
                }
                folded.add(half);
            }
            return folded;
        }

        static List<List<List<Integer>>> upright(List<List<List<Integer>>> grid, boolean up) {
            List<List<Integer>> stays = grid.get(up ? 0 : 1);
            List<List<Integer>> turned = grid.get(up ? 1 : 0);
            List<List<Integer>> line = new ArrayList<>();
            for (int c = 0; c < stays.size(); c++) {
                line.add(onTop(turned.get(c), stays.get(c)));
            }
            List<List<List<Integer>>> folded = new ArrayList<>();
            folded.add(line);
            return folded;
        }

        static List<Integer> onTop(List<Integer> turned, List<Integer> under) {
            List<Integer> pile = new ArrayList<>(turned);
            Collections.reverse(pile);
            pile.addAll(under);
            return pile;
        }

        int addBook() {
            state(books.size() < 4);
            books.add(new ArrayList<>());
            return books.size() - 1;
        }

        int draw(int book, int at, int position, int betweens, int curve) {
            hasBook(book);
            index(in(at, 0, books.get(book).size()));
            argument(in(position, 0, 999) && in(betweens, 0, 5) && in(curve, 0, 3));
            state(books.get(book).size() < 8);
            books.get(book).add(at, new int[] {position, betweens, curve});
            return spoil(book);
        }

        int erase(int book, int drawing) {
            hasBook(book);
            index(in(drawing, 0, books.get(book).size() - 1));
            books.get(book).remove(drawing);
            return spoil(book);
        }

        int move(int book, int drawing, int position) {
            hasBook(book);
            index(in(drawing, 0, books.get(book).size() - 1));
            argument(in(position, 0, 999));
            books.get(book).get(drawing)[0] = position;
            return spoil(book);
        }

        int frames(int book) {
            hasBook(book);
            return row(book).size();
        }

        int frameAt(int book, int frame) {
            hasBook(book);
            index(in(frame, 0, row(book).size() - 1));
            return row(book).get(frame);
        }

        int order(int book, int copies) {
            hasBook(book);
            argument(in(copies, 1, 3));
            state(orders.size() < 5);
            orders.add(new int[] {book, copies});
            return orders.size() - 1;
        }

        int lacking(int order) {
            hasOrder(order);
            return (int) lack().stream().filter(leaf -> leaf[0] == order).count();
        }

        int waits(int order) {
            hasOrder(order);
            List<int[]> lack = lack();
            int last = 0;
            for (int i = 0; i < lack.size(); i++) {
                if (lack.get(i)[0] == order) {
                    last = i / 8 + 1;
                }
            }
            return last;
        }

        int setFolds(int first, int second, int third) {
            int[] all = {first, second, third};
            int sideways = 0;
            for (int fold : all) {
                argument(in(fold, 0, 3));
                sideways += fold < 2 ? 1 : 0;
            }
            argument(sideways == 2);
            folds = all;
            return 0;
        }

        int cellOf(int place) {
            index(in(place, 0, 7));
            return pile(folds).get(place);
        }

        int placeOf(int cell) {
            index(in(cell, 0, 7));
            return pile(folds).indexOf(cell);
        }

        int print(int most) {
            argument(in(most, 1, 10));
            List<int[]> lack = lack();
            int many = Math.min(most, (lack.size() + 7) / 8);
            state(sheets.size() + many <= 50);
            for (int i = 0; i < many; i++) {
                Sheet sheet = new Sheet();
                sheet.pile = pile(folds);
                sheets.add(sheet);
                for (int k = 0; k < 8 && i * 8 + k < lack.size(); k++) {
                    int[] what = lack.get(i * 8 + k);
                    Leaf leaf = new Leaf();
                    leaf.order = what[0];
                    leaf.copy = what[1];
                    leaf.frame = what[2];
                    leaf.shows = what[3];
                    leaf.sheet = sheets.size() - 1;
                    leaf.cell = sheet.pile.get(k);
                    leaves.add(leaf);
                }
            }
            return many;
        }

        int waiting() {
            return (int) sheets.stream().filter(sheet -> sheet.state.equals("waits")).count();
        }

        int onSheet(int sheet, int cell) {
            index(in(cell, 0, 7));
            element(in(sheet, 0, sheets.size() - 1));
            for (Leaf leaf : leaves) {
                if (leaf.sheet == sheet && leaf.cell == cell) {
                    return 10000 * leaf.order + 1000 * leaf.copy + leaf.frame;
                }
            }
            return -1;
        }

        int cut(int knife) {
            index(in(knife, 0, 1));
            element(waiting() > 0);
            Sheet sheet = sheets.stream().filter(s -> s.state.equals("waits")).findFirst().get();
            sheet.state = "cut";
            sheet.trim = Math.min(60, dull[knife]) / 4;
            dull[knife]++;
            return sheet.trim;
        }

        int discard() {
            int count = 0;
            for (int i = 0; i < sheets.size(); i++) {
                int number = i;
                boolean useful = leaves.stream().anyMatch(leaf -> leaf.sheet == number && !leaf.spoiled);
                if (sheets.get(i).state.equals("waits") && !useful) {
                    sheets.get(i).state = "thrown away";
                    count++;
                }
            }
            return count;
        }

        int sharpen(int knife) {
            index(in(knife, 0, 1));
            int before = Math.min(60, dull[knife]);
            dull[knife] = 0;
            return before;
        }

        int setTolerance(int to) {
            argument(in(to, 0, 15));
            int before = tolerance;
            tolerance = to;
            return before;
        }

        int bind(int order, int copy) {
            hasCopy(order, copy);
            state(bound[order][copy] < 0);
            List<Leaf> own = new ArrayList<>();
            for (int frame = 0; frame < row(order, copy).size(); frame++) {
                Leaf leaf = useful(order, copy, frame);
                state(leaf != null && sheets.get(leaf.sheet).state.equals("cut"));
                own.add(leaf);
            }
            int least = own.stream().mapToInt(leaf -> sheets.get(leaf.sheet).trim).min().orElse(0);
            int spoiled = 0;
            for (Leaf leaf : own) {
                if (sheets.get(leaf.sheet).trim > least + tolerance) {
                    leaf.spoiled = true;
                    spoiled++;
                }
            }
            if (spoiled == 0) {
                bound[order][copy] = own.size();
            }
            return spoiled == 0 ? own.size() : -spoiled;
        }

        int isBound(int order, int copy) {
            hasCopy(order, copy);
            return bound[order][copy] >= 0 ? 1 : 0;
        }

        Leaf kept(int order, int copy, int frame) {
            hasCopy(order, copy);
            index(in(frame, 0, row(order, copy).size() - 1));
            Leaf leaf = useful(order, copy, frame);
            return leaf != null && sheets.get(leaf.sheet).state.equals("cut") ? leaf : null;
        }

        int trim(int order, int copy, int frame) {
            Leaf leaf = kept(order, copy, frame);
            return leaf == null ? -1 : sheets.get(leaf.sheet).trim;
        }

        int leaf(int order, int copy, int frame) {
            Leaf leaf = kept(order, copy, frame);
            return leaf == null ? -1 : leaf.shows;
        }

        int spoiled() {
            return (int) leaves.stream().filter(leaf -> leaf.spoiled).count();
        }
    }

    private static int ask(Thumbreel x, int call, int[] a) {
        switch (call) {
            case 0: return x.addBook();
            case 1: return x.draw(a[0], a[1], a[2], a[3], a[4]);
            case 2: return x.erase(a[0], a[1]);
            case 3: return x.move(a[0], a[1], a[2]);
            case 4: return x.frames(a[0]);
            case 5: return x.frameAt(a[0], a[1]);
            case 6: return x.order(a[0], a[1]);
            case 7: return x.lacking(a[0]);
            case 8: return x.waits(a[0]);
            case 9: x.setFolds(a[0], a[1], a[2]); return 0;
            case 10: return x.cellOf(a[0]);
            case 11: return x.placeOf(a[0]);
            case 12: return x.print(a[0]);
            case 13: return x.waiting();
            case 14: return x.onSheet(a[0], a[1]);
            case 15: return x.cut(a[0]);
            case 16: return x.discard();
            case 17: return x.sharpen(a[0]);
            case 18: return x.setTolerance(a[0]);
            case 19: return x.bind(a[0], a[1]);
            case 20: return x.isBound(a[0], a[1]) ? 1 : 0;
            case 21: return x.trim(a[0], a[1], a[2]);
            case 22: return x.leaf(a[0], a[1], a[2]);
            case 23: return x.leafByPiles(a[0], a[1], a[2]);
            default: return x.spoiled();
        }
    }

    private static int ask(Model m, int call, int[] a) {
        switch (call) {
            case 0: return m.addBook();
            case 1: return m.draw(a[0], a[1], a[2], a[3], a[4]);
            case 2: return m.erase(a[0], a[1]);
            case 3: return m.move(a[0], a[1], a[2]);
            case 4: return m.frames(a[0]);
            case 5: return m.frameAt(a[0], a[1]);
            case 6: return m.order(a[0], a[1]);
            case 7: return m.lacking(a[0]);
            case 8: return m.waits(a[0]);
            case 9: return m.setFolds(a[0], a[1], a[2]);
            case 10: return m.cellOf(a[0]);
            case 11: return m.placeOf(a[0]);
            case 12: return m.print(a[0]);
            case 13: return m.waiting();
            case 14: return m.onSheet(a[0], a[1]);
            case 15: return m.cut(a[0]);
            case 16: return m.discard();
            case 17: return m.sharpen(a[0]);
            case 18: return m.setTolerance(a[0]);
            case 19: return m.bind(a[0], a[1]);
            case 20: return m.isBound(a[0], a[1]);
            case 21: return m.trim(a[0], a[1], a[2]);
            case 22: return m.leaf(a[0], a[1], a[2]);
            case 23: return m.leaf(a[0], a[1], a[2]);
            default: return m.spoiled();
        }
    }

    private interface Call {
        int answer();
    }

    /** The answer, or the exception's name, with a mark if it is the machine's or the library's own. */
    private static String outcome(String thrower, Call call) {
        try {
            return Integer.toString(call.answer());
        } catch (RuntimeException e) {
            StackTraceElement[] trace = e.getStackTrace();
            boolean isOwn = trace.length > 0 && trace[0].getClassName().startsWith(thrower);
            return (isOwn ? "" : "not thrown by " + thrower + ": ") + e.getClass().getSimpleName();
        }
    }

    /** Draws the arguments: of their range mostly, at its edges or far off now and then. */
    private static final class Chooser {
        private final Random random;
        private final boolean wild;
        private final int drawings;

        Chooser(long seed) {
            random = new Random(seed);
            wild = random.nextInt(4) == 0;
            drawings = 2 + random.nextInt(7);
        }

        int below(int bound) {
            int way = random.nextInt(wild ? 8 : 200);
            if (way == 0) {
                return random.nextInt(3) == 0 ? random.nextInt() : -1;
            }
            return way == 1 ? bound : random.nextInt(Math.max(1, bound));
        }

        int position() {
            return random.nextInt(3) == 0 ? below(1000) : below(4);
        }

        int[] folds() {
            int[] folds = {below(2), below(2), below(2)};
            folds[random.nextInt(3)] = 2 + below(2);
            return folds;
        }

        int call() {
            int[] often = {1, 3, 12, 12, 15, 15, 15, 15, 19, 19, 19, 8, 14, 21, 22, 23};
            return random.nextInt(2) == 0 ? often[random.nextInt(often.length)] : random.nextInt(NAMES);
        }

        int[] arguments(int call, Model m) {
            int book = below(m.books.size());
            int order = below(m.orders.size());
            boolean hasBook = 0 <= book && book < m.books.size();
            boolean hasOrder = 0 <= order && order < m.orders.size();
            int size = hasBook ? m.books.get(book).size() : 1;
            int copy = below(hasOrder ? m.orders.get(order)[1] : 1);
            switch (call) {
                case 1: return new int[] {book, below(size + 1), position(), below(6), below(4)};
                case 2: return new int[] {book, below(size)};
                case 3: return new int[] {book, below(size), position()};
                case 4: return new int[] {book};
                case 5: return new int[] {book, below(hasBook ? m.row(book).size() : 1)};
                case 6: return new int[] {book, 1 + below(3)};
                case 7:
                case 8: return new int[] {order};
                case 9: return folds();
                case 10:
                case 11: return new int[] {below(8)};
                case 12: return new int[] {1 + below(random.nextInt(4) == 0 ? 10 : 2)};
                case 14: return new int[] {below(m.sheets.size()), below(8)};
                case 15:
                case 17: return new int[] {below(2)};
                case 18: return new int[] {below(random.nextBoolean() ? 16 : 2)};
                case 19:
                case 20: return new int[] {order, copy};
                case 21:
                case 22:
                case 23: return new int[] {order, copy, below(hasOrder ? m.row(m.orders.get(order)[0]).size() : 1)};
                default: return new int[0];
            }
        }

        /** Holds back what would end a run early: too many drawings, dull knives made sharp. */
        boolean skips(int call, int[] a, Model m) {
            if (call == 1 && 0 <= a[0] && a[0] < m.books.size()) {
                return m.books.get(a[0]).size() >= drawings && random.nextInt(10) != 0;
            }
            return (call == 17 || call == 6 || call == 0) && random.nextInt(4) != 0;
        }
    }

    private static int[] told = new int[NAMES];
    private static int[] thrown = new int[NAMES];

    private static boolean compareRun(long seed) {
        Thumbreel x = new Thumbreel();
        Model m = new Model();
        Chooser chooser = new Chooser(seed);
        for (int i = 0; i < CALLS; i++) {
            int call = i == 0 ? 0 : chooser.call();
            int[] a = chooser.arguments(call, m);
            if (i > 0 && chooser.skips(call, a, m)) {
                call = 24;
            }
            int which = call;
            String got = outcome("Thumbreel", () -> ask(x, which, a));
            String want = outcome("ModelTest", () -> ask(m, which, a));
            if (want.endsWith("Exception")) {
                thrown[call]++;
            } else {
                told[call]++;
            }
            if (!got.equals(want)) {
                System.out.println("seed " + seed + ", call " + i + ", kind " + call + " "
                    + java.util.Arrays.toString(a) + " gave " + got + ", due is " + want);
                return false;
            }
        }
        return true;
    }

    public static void main(String[] args) {
        int failed = 0;
        for (int seed = 0; seed < RUNS; seed++) {
            if (!compareRun(seed)) {
                failed++;
            }
        }
        if (args.length > 0) {
            System.out.println(java.util.Arrays.toString(told));
            System.out.println(java.util.Arrays.toString(thrown));
        }
        System.out.println(RUNS - failed + " passed, " + failed + " failed");
        if (failed != 0) {
            System.exit(1);
        }
    }
}
