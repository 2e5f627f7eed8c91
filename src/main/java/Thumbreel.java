import java.util.ArrayList;
import java.util.NoSuchElementException;

/** A maker of flip books: drawings, orders, sheets, knives and binding. */
public final class Thumbreel {
    public static final int NONE = -1;
    public static final int EVEN = 0, SLOW_IN = 1, SLOW_OUT = 2, BOTH = 3;
    public static final int LEFT = 0, RIGHT = 1, UP = 2, DOWN = 3;

    private static final int MOST_BOOKS = 4;
    private static final int MOST_DRAWINGS = 8;
    private static final int MOST_BETWEENS = 5;
    private static final int MOST_FRAMES = MOST_DRAWINGS + (MOST_DRAWINGS - 1) * MOST_BETWEENS;
    private static final int GREATEST_POSITION = 999;
    private static final int MOST_ORDERS = 5;
    private static final int MOST_COPIES = 3;
    private static final int MOST_SHEETS = 50;
    private static final int MOST_SHEETS_AT_ONCE = 10;
    private static final int ROWS = 2;
    private static final int COLUMNS = 4;
    private static final int CELLS = ROWS * COLUMNS;
    private static final int FOLDS = 3;
    private static final int KNIVES = 2;
    private static final int GREATEST_DULLNESS = 60;
    private static final int DULLNESS_OF_A_TRIM = 4;
    private static final int GREATEST_TOLERANCE = 15;
    private static final int FIRST_TOLERANCE = 2;
    private static final int CODE_OF_AN_ORDER = 10000;
    private static final int CODE_OF_A_COPY = 1000;

    private final ArrayList<Book> books = new ArrayList<Book>();
    private final ArrayList<Order> orders = new ArrayList<Order>();
    private final ArrayList<Sheet> sheets = new ArrayList<Sheet>();
    /** The numbers of the orders in the order in which their leaves are printed. */
    private final int[] turns = new int[MOST_ORDERS];
    private final int[] dullness = new int[KNIVES];
    private final Piles piles = new Piles();
    private Folding folding = new Folding(RIGHT, RIGHT, UP);
    private int tolerance = FIRST_TOLERANCE;
    private int spoiledLeaves = 0;

    public Thumbreel() {
    }

    // ---- books

    public int addBook() throws IllegalStateException {
        if (books.size() >= MOST_BOOKS) {
            throw new IllegalStateException("there are 4 books");
        }
        books.add(new Book());
        return books.size() - 1;
    }

    public int draw(int book, int at, int position, int betweens, int curve)
            throws IndexOutOfBoundsException, IllegalArgumentException, IllegalStateException {
        Book drawn = bookNumbered(book);
        if (at < 0 || at > drawn.drawings) {
            throw new IndexOutOfBoundsException("no such place for a drawing");
        }
        checkRange(position, 0, GREATEST_POSITION);
        checkRange(betweens, 0, MOST_BETWEENS);
        checkRange(curve, EVEN, BOTH);
        if (drawn.drawings >= MOST_DRAWINGS) {
            throw new IllegalStateException("the book has 8 drawings");
        }
        drawn.insert(at, position, betweens, curve);
        return spoilChanged(drawn);
    }

    public int erase(int book, int drawing) throws IndexOutOfBoundsException {
        Book drawn = bookNumbered(book);
        checkIndex(drawing, drawn.drawings);
        drawn.takeOut(drawing);
        return spoilChanged(drawn);
    }

    public int move(int book, int drawing, int position)
            throws IndexOutOfBoundsException, IllegalArgumentException {
        Book drawn = bookNumbered(book);
        checkIndex(drawing, drawn.drawings);
        checkRange(position, 0, GREATEST_POSITION);
        drawn.putAt(drawing, position);
        return spoilChanged(drawn);
    }

    public int frames(int book) throws IndexOutOfBoundsException {
        return bookNumbered(book).length;
    }

    public int frameAt(int book, int frame) throws IndexOutOfBoundsException {
        Book shown = bookNumbered(book);
        checkIndex(frame, shown.length);
        return shown.positionOf(frame);
    }

    // ---- orders

    public int order(int book, int copies)
            throws IndexOutOfBoundsException, IllegalArgumentException, IllegalStateException {
        Book wanted = bookNumbered(book);
        checkRange(copies, 1, MOST_COPIES);
        if (orders.size() >= MOST_ORDERS) {
            throw new IllegalStateException("there are 5 orders");
        }
        orders.add(new Order(orders.size(), wanted, copies));
        return orders.size() - 1;
    }

    public int lacking(int order) throws IndexOutOfBoundsException {
        return orderNumbered(order).countLacking();
    }

    public int waits(int order) throws IndexOutOfBoundsException {
        Order asked = orderNumbered(order);
        int own = asked.countLacking();
        if (own == 0) {
            return 0;
        }
        int ahead = 0;
        for (int i = 0; i < orders.size(); i++) {
            Order other = orders.get(i);
            if (other.isAheadOf(asked)) {
                ahead += other.countLacking();
            }
        }
        return sheetsFor(ahead + own);
    }

    // ---- sheets and folds

    public void setFolds(int first, int second, int third) throws IllegalArgumentException {
        checkRange(first, LEFT, DOWN);
        checkRange(second, LEFT, DOWN);
        checkRange(third, LEFT, DOWN);
        int sideways = oneIfSideways(first) + oneIfSideways(second) + oneIfSideways(third);
        if (sideways != 2) {
            throw new IllegalArgumentException("two folds are LEFT or RIGHT, one is UP or DOWN");
        }
        folding = new Folding(first, second, third);
    }

    public int cellOf(int place) throws IndexOutOfBoundsException {
        checkIndex(place, CELLS);
        return folding.unfold(place);
    }

    public int placeOf(int cell) throws IndexOutOfBoundsException {
        checkIndex(cell, CELLS);
        piles.foldAll(folding);
        for (int place = 0; place < CELLS; place++) {
            if (piles.cellAt(place) == cell) {
                return place;
            }
        }
        return NONE;
    }

    public int print(int sheets) throws IllegalArgumentException, IllegalStateException {
        checkRange(sheets, 1, MOST_SHEETS_AT_ONCE);
        int printed = Math.min(sheets, sheetsFor(countAllLacking()));
        if (this.sheets.size() + printed > MOST_SHEETS) {
            throw new IllegalStateException("there would be more than 50 sheets");
        }
        sortOrders();
        for (int i = 0; i < printed; i++) {
            this.sheets.add(printSheet());
        }
        return printed;
    }

    public int waiting() {
        int count = 0;
        for (int i = 0; i < sheets.size(); i++) {
            if (sheets.get(i).isWaiting) {
                count++;
            }
        }
        return count;
    }

    public int onSheet(int sheet, int cell)
            throws IndexOutOfBoundsException, java.util.NoSuchElementException {
        checkIndex(cell, CELLS);
        if (sheet < 0 || sheet >= sheets.size()) {
            throw new NoSuchElementException("no such sheet");
        }
        Leaf leaf = sheets.get(sheet).leafIn(cell);
        return leaf == null ? NONE : leaf.code();
    }

    // ---- knives and binding

    public int cut(int knife) throws IndexOutOfBoundsException, java.util.NoSuchElementException {
        checkIndex(knife, KNIVES);
        Sheet sheet = longestWaiting();
        if (sheet == null) {
            throw new NoSuchElementException("no sheet waits");
        }
        int trim = dullness[knife] / DULLNESS_OF_A_TRIM;
        dullness[knife] = Math.min(dullness[knife] + 1, GREATEST_DULLNESS);
        sheet.cutWith(trim);
        return trim;
    }

    public int discard() {
        int count = 0;
        for (int i = 0; i < sheets.size(); i++) {
            Sheet sheet = sheets.get(i);
            if (sheet.isWaiting && !sheet.isOfUse()) {
                sheet.isWaiting = false;
                count++;
            }
        }
        return count;
    }

    public int sharpen(int knife) throws IndexOutOfBoundsException {
        checkIndex(knife, KNIVES);
        int before = dullness[knife];
        dullness[knife] = 0;
        return before;
    }

    public int setTolerance(int tolerance) throws IllegalArgumentException {
        checkRange(tolerance, 0, GREATEST_TOLERANCE);
        int before = this.tolerance;
        this.tolerance = tolerance;
        return before;
    }

    public int bind(int order, int copy) throws IndexOutOfBoundsException, IllegalStateException {
        Order bound = orderNumbered(order);
        Copy of = copyNumbered(bound, copy);
        int length = bound.book.length;
        if (of.isBound || !of.isAllCut(length)) {
            throw new IllegalStateException("it is bound, or a leaf is not printed and cut");
        }
        int spoiled = of.spoilAbove(of.leastTrim(length) + tolerance);
        if (spoiled > 0) {
            spoiledLeaves += spoiled;
            return -spoiled;
        }
        of.isBound = true;
        of.boundLength = length;
        return length;
    }

    public boolean isBound(int order, int copy) throws IndexOutOfBoundsException {
        return copyNumbered(orderNumbered(order), copy).isBound;
    }

    public int trim(int order, int copy, int frame) throws IndexOutOfBoundsException {
        Leaf leaf = keptLeaf(order, copy, frame);
        return leaf == null ? NONE : leaf.sheet.trimmed;
    }

    public int leaf(int order, int copy, int frame) throws IndexOutOfBoundsException {
        Leaf leaf = keptLeaf(order, copy, frame);
        return leaf == null ? NONE : leaf.position;
    }

    public int leafByPiles(int order, int copy, int frame) throws IndexOutOfBoundsException {
        Order asked = orderNumbered(order);
        Copy of = copyNumbered(asked, copy);
        checkIndex(frame, asked.lengthOf(of));
        for (int i = 0; i < sheets.size(); i++) {
            Sheet sheet = sheets.get(i);
            if (sheet.isCut()) {
                Leaf leaf = findInPile(sheet, order, copy, frame);
                if (leaf != null) {
                    return leaf.position;
                }
            }
        }
        return NONE;
    }

    public int spoiled() {
        return spoiledLeaves;
    }

    // ---- what the calls share

    private static void checkIndex(int index, int size) {
        if (index < 0 || index >= size) {
            throw new IndexOutOfBoundsException("there is no such thing");
        }
    }

    private static void checkRange(int value, int least, int greatest) {
        if (value < least || value > greatest) {
            throw new IllegalArgumentException("an argument is out of its range");
        }
    }

    private Book bookNumbered(int book) {
        checkIndex(book, books.size());
        return books.get(book);
    }

    private Order orderNumbered(int order) {
        checkIndex(order, orders.size());
        return orders.get(order);
    }

    private static Copy copyNumbered(Order order, int copy) {
        checkIndex(copy, order.copies.size());
        return order.copies.get(copy);
    }

    private static int oneIfSideways(int fold) {
        return fold == LEFT || fold == RIGHT ? 1 : 0;
    }

    private static int sheetsFor(int leaves) {
        return (leaves + CELLS - 1) / CELLS;
    }

    private int spoilChanged(Book book) {
        int spoiled = 0;
        for (int i = 0; i < orders.size(); i++) {
            Order order = orders.get(i);
            if (order.book == book) {
                spoiled += order.spoilChanged();
            }
        }
        spoiledLeaves += spoiled;
        return spoiled;
    }

    private int countAllLacking() {
        int count = 0;
        for (int i = 0; i < orders.size(); i++) {
            count += orders.get(i).countLacking();
        }
        return count;
    }

    private void sortOrders() {
        for (int i = 0; i < orders.size(); i++) {
            int turn = 0;
            for (int j = 0; j < orders.size(); j++) {
                if (orders.get(j).isAheadOf(orders.get(i))) {
                    turn++;
                }
            }
            if (turn < turns.length) {
                turns[turn] = i;
            }
        }
    }

    private Sheet printSheet() {
        Sheet sheet = new Sheet(folding);
        int place = 0;
        for (int turn = 0; turn < orders.size() && turn < turns.length; turn++) {
            int order = turns[turn];
            if (order >= 0 && order < orders.size()) {
                place = orders.get(order).fill(sheet, place);
            }
        }
        return sheet;
    }

    private Sheet longestWaiting() {
        for (int i = 0; i < sheets.size(); i++) {
            if (sheets.get(i).isWaiting) {
                return sheets.get(i);
            }
        }
        return null;
    }

    /** The leaf of a frame if it is of use and cut, otherwise null. */
    private Leaf keptLeaf(int order, int copy, int frame) {
        Order asked = orderNumbered(order);
        Copy of = copyNumbered(asked, copy);
        checkIndex(frame, asked.lengthOf(of));
        Leaf leaf = of.leafOf(frame);
        return leaf != null && leaf.sheet.isCut() ? leaf : null;
    }

    private Leaf findInPile(Sheet sheet, int order, int copy, int frame) {
        piles.foldAll(sheet.folding);
        for (int place = 0; place < CELLS; place++) {
            Leaf leaf = sheet.leafIn(piles.cellAt(place));
            if (leaf != null && !leaf.isSpoiled && leaf.belongsTo(order, copy, frame)) {
                return leaf;
            }
        }
        return null;
    }

    /** A row of drawings, and the row of frames that they make. */
    private static final class Book {
        private final int[] positions = new int[MOST_DRAWINGS];
        private final int[] betweens = new int[MOST_DRAWINGS];
        private final int[] curves = new int[MOST_DRAWINGS];
        private final int[] row = new int[MOST_FRAMES];
        private int drawings = 0;
        private int length = 0;

        private void insert(int at, int position, int between, int curve) {
            if (at < 0 || at > drawings || drawings >= MOST_DRAWINGS) {
                return;
            }
            for (int i = drawings; i > at; i--) {
                copyDrawing(i - 1, i);
            }
            positions[at] = position;
            betweens[at] = between;
            curves[at] = curve;
            drawings++;
            layFrames();
        }

        private void takeOut(int drawing) {
            if (drawing < 0 || drawing >= drawings) {
                return;
            }
            for (int i = drawing + 1; i < drawings; i++) {
                copyDrawing(i, i - 1);
            }
            drawings--;
            layFrames();
        }

        private void putAt(int drawing, int position) {
            if (drawing < 0 || drawing >= drawings) {
                return;
            }
            positions[drawing] = position;
            layFrames();
        }

        private int positionOf(int frame) {
            return frame < 0 || frame >= length ? NONE : row[frame];
        }

        private void copyDrawing(int from, int to) {
            positions[to] = positions[from];
            betweens[to] = betweens[from];
            curves[to] = curves[from];
        }

        private void layFrames() {
            length = 0;
            for (int i = 0; i < drawings; i++) {
                addFrame(positions[i]);
                if (i + 1 < drawings) {
                    addBetweens(positions[i], positions[i + 1], betweens[i], curves[i]);
                }
            }
        }

        private void addBetweens(int from, int to, int many, int curve) {
            int steps = many + 1;
            int whole = steps * steps;
            if (whole <= 0) {
                return;
            }
            for (int step = 1; step <= many; step++) {
                addFrame(from + (to - from) * shareOfWay(step, steps, curve) / whole);
            }
        }

        private void addFrame(int position) {
            if (length < MOST_FRAMES) {
                row[length] = position;
                length++;
            }
        }

        /** How much of the way is gone, in parts of steps * steps. */
        private static int shareOfWay(int step, int steps, int curve) {
            int left = steps - step;
            switch (curve) {
                case SLOW_IN:
                    return step * step;
                case SLOW_OUT:
                    return steps * steps - left * left;
                case BOTH:
                    return 2 * step <= steps ? 2 * step * step : steps * steps - 2 * left * left;
                default:
                    return step * steps;
            }
        }
    }

    /** An order of some copies of a book. */
    private static final class Order {
        private final int number;
        private final Book book;
        private final ArrayList<Copy> copies = new ArrayList<Copy>();

        private Order(int number, Book book, int many) {
            this.number = number;
            this.book = book;
            for (int i = 0; i < many; i++) {
                copies.add(new Copy());
            }
        }

        private boolean isAheadOf(Order other) {
            if (book.length != other.book.length) {
                return book.length > other.book.length;
            }
            return number < other.number;
        }

        private int lengthOf(Copy copy) {
            return copy.isBound ? copy.boundLength : book.length;
        }

        private int countLacking() {
            int count = 0;
            for (int i = 0; i < copies.size(); i++) {
                count += copies.get(i).countLacking(book.length);
            }
            return count;
        }

        private int spoilChanged() {
            int count = 0;
            for (int i = 0; i < copies.size(); i++) {
                count += copies.get(i).spoilChanged(book);
            }
            return count;
        }

        /** Puts lacking leaves on the sheet from a place on; answers the next free place. */
        private int fill(Sheet sheet, int place) {
            int next = place;
            for (int i = 0; i < copies.size(); i++) {
                Copy copy = copies.get(i);
                for (int frame = 0; frame < book.length && next < CELLS; frame++) {
                    if (copy.isLacking(frame)) {
                        Leaf leaf = new Leaf(number, i, frame, book.positionOf(frame), sheet);
                        copy.take(leaf);
                        sheet.lay(leaf, next);
                        next++;
                    }
                }
            }
            return next;
        }
    }

    /** A copy with its leaves that are of use, by their frames. */
    private static final class Copy {
        private final Leaf[] leaves = new Leaf[MOST_FRAMES];
        private boolean isBound = false;
        private int boundLength = 0;

        private Leaf leafOf(int frame) {
            return frame < 0 || frame >= leaves.length ? null : leaves[frame];
        }

        private void take(Leaf leaf) {
            if (leaf.frame >= 0 && leaf.frame < leaves.length) {
                leaves[leaf.frame] = leaf;
            }
        }

        private boolean isLacking(int frame) {
            return !isBound && leafOf(frame) == null;
        }

        private int countLacking(int length) {
            int count = 0;
            for (int frame = 0; frame < length; frame++) {
                if (isLacking(frame)) {
                    count++;
                }
            }
            return count;
        }

        private boolean isAllCut(int length) {
            for (int frame = 0; frame < length; frame++) {
                Leaf leaf = leafOf(frame);
                if (leaf == null || !leaf.sheet.isCut()) {
                    return false;
                }
            }
            return true;
        }

        private int leastTrim(int length) {
            int least = GREATEST_DULLNESS / DULLNESS_OF_A_TRIM;
            for (int frame = 0; frame < length; frame++) {
                Leaf leaf = leafOf(frame);
                if (leaf != null) {
                    least = Math.min(least, leaf.sheet.trimmed);
                }
            }
            return least;
        }

        private int spoilAbove(int greatest) {
            int count = 0;
            for (int frame = 0; frame < leaves.length; frame++) {
                Leaf leaf = leaves[frame];
                if (leaf != null && leaf.sheet.trimmed > greatest) {
                    spoil(leaf);
                    count++;
                }
            }
            return count;
        }

        private int spoilChanged(Book book) {
            if (isBound) {
                return 0;
            }
            int count = 0;
            for (int frame = 0; frame < leaves.length; frame++) {
                Leaf leaf = leaves[frame];
                // A frame that is gone has the position NONE, which no leaf shows.
                if (leaf != null && leaf.position != book.positionOf(frame)) {
                    spoil(leaf);
                    count++;
                }
            }
            return count;
        }

        private void spoil(Leaf leaf) {
            leaf.isSpoiled = true;
            if (leaf.frame >= 0 && leaf.frame < leaves.length) {
                leaves[leaf.frame] = null;
            }
        }
    }

    /** A printed leaf; it stays on its sheet when it is spoiled. */
    private static final class Leaf {
        private final int order;
        private final int copy;
        private final int frame;
        private final int position;
        private final Sheet sheet;
        private boolean isSpoiled = false;

        private Leaf(int order, int copy, int frame, int position, Sheet sheet) {
            this.order = order;
            this.copy = copy;
            this.frame = frame;
            this.position = position;
            this.sheet = sheet;
        }

        private int code() {
            return CODE_OF_AN_ORDER * order + CODE_OF_A_COPY * copy + frame;
        }

        private boolean belongsTo(int order, int copy, int frame) {
            return this.order == order && this.copy == copy && this.frame == frame;
        }
    }

    /** A printed sheet, which waits until it is cut or thrown away. */
    private static final class Sheet {
        private final Leaf[] cells = new Leaf[CELLS];
        private final Folding folding;
        private boolean isWaiting = true;
        private int trimmed = NONE;

        private Sheet(Folding folding) {
            this.folding = folding;
        }

        private Leaf leafIn(int cell) {
            return cell < 0 || cell >= cells.length ? null : cells[cell];
        }

        private void lay(Leaf leaf, int place) {
            int cell = folding.unfold(place);
            if (cell >= 0 && cell < cells.length) {
                cells[cell] = leaf;
            }
        }

        private void cutWith(int trim) {
            isWaiting = false;
            trimmed = trim;
        }

        private boolean isCut() {
            return trimmed != NONE;
        }

        private boolean isOfUse() {
            for (int cell = 0; cell < cells.length; cell++) {
                Leaf leaf = cells[cell];
                if (leaf != null && !leaf.isSpoiled) {
                    return true;
                }
            }
            return false;
        }
    }

    /** Three folds, one after the other. */
    private static final class Folding {
        private final int[] folds = new int[FOLDS];

        private Folding(int first, int second, int third) {
            folds[0] = first;
            folds[1] = second;
            folds[2] = third;
        }

        /** The cell that comes to a place, found by undoing the folds from the last one on. */
        private int unfold(int place) {
            int row = 0;
            int column = 0;
            int rows = 1;
            int columns = 1;
            int inPile = place;
            int half = CELLS / 2;
            for (int i = FOLDS - 1; i >= 0; i--) {
                boolean turned = inPile < half;
                inPile = turned ? half - 1 - inPile : inPile - half;
                half /= 2;
                int fold = folds[i];
                if (fold == LEFT || fold == RIGHT) {
                    column = unfoldLine(column, columns, turned, fold == RIGHT);
                    columns *= 2;
                } else {
                    row = unfoldLine(row, rows, turned, fold == UP);
                    rows *= 2;
                }
            }
            return row * COLUMNS + column;
        }

        /** Where a row or column of a folded sheet lies when it is twice as large. */
        private static int unfoldLine(int line, int size, boolean turned, boolean firstHalfStays) {
            int stays = firstHalfStays ? line : size + line;
            return turned ? 2 * size - 1 - stays : stays;
        }
    }

    /** A sheet that is folded pile by pile; made once and used for every sheet. */
    private static final class Piles {
        /** The cells of each pile from its top, the pile of the cell c from c * CELLS on. */
        private final int[] cells = new int[CELLS * CELLS];
        private final int[] heights = new int[CELLS];
        private int top = 0;
        private int left = 0;
        private int rows = ROWS;
        private int columns = COLUMNS;

        private void foldAll(Folding folding) {
            spread();
            for (int i = 0; i < FOLDS; i++) {
                int fold = folding.folds[i];
                if (fold == LEFT || fold == RIGHT) {
                    foldSideways(fold == RIGHT);
                } else {
                    foldUpright(fold == UP);
                }
            }
        }

        /** The cell at a place of the pile that is left. */
        private int cellAt(int place) {
            int pile = pileAt(0, 0);
            if (pile < 0 || pile >= CELLS || place < 0 || place >= heights[pile]) {
                return NONE;
            }
            return cells[pile * CELLS + place];
        }

        private void spread() {
            top = 0;
            left = 0;
            rows = ROWS;
            columns = COLUMNS;
            for (int cell = 0; cell < CELLS; cell++) {
                heights[cell] = 1;
                cells[cell * CELLS] = cell;
            }
        }

        private int pileAt(int row, int column) {
            return (top + row) * COLUMNS + left + column;
        }

        private void foldSideways(boolean leftStays) {
            int half = columns / 2;
            for (int row = 0; row < rows; row++) {
                for (int column = 0; column < half; column++) {
                    int onLeft = pileAt(row, column);
                    int onRight = pileAt(row, columns - 1 - column);
                    turnOnto(leftStays ? onRight : onLeft, leftStays ? onLeft : onRight);
                }
            }
            left += leftStays ? 0 : half;
            columns = half;
        }

        private void foldUpright(boolean upperStays) {
            int half = rows / 2;
            for (int row = 0; row < half; row++) {
                for (int column = 0; column < columns; column++) {
                    int upper = pileAt(row, column);
                    int lower = pileAt(rows - 1 - row, column);
                    turnOnto(upperStays ? lower : upper, upperStays ? upper : lower);
                }
            }
            top += upperStays ? 0 : half;
            rows = half;
        }

        private void turnOnto(int from, int onto) {
            if (from < 0 || from >= CELLS || onto < 0 || onto >= CELLS) {
                return;
            }
            int many = heights[from];
            int under = heights[onto];
            if (many + under > CELLS) {
                return;
            }
            for (int i = under - 1; i >= 0; i--) {
                cells[onto * CELLS + many + i] = cells[onto * CELLS + i];
            }
            for (int i = 0; i < many; i++) {
                cells[onto * CELLS + i] = cells[from * CELLS + many - 1 - i];
            }
            heights[onto] = many + under;
            heights[from] = 0;
        }
    }
}
