/** The sentences about sheets and folds that name a boundary case: promises 11 to 16 and the terms behind them. */
public final class SheetSentencesTest {
    /** Every row of folds that there is, and behind it the cells by their places, worked out apart from the program. */
    private static final int[][] FOLDINGS = {
        {0, 0, 2, 7, 4, 5, 6, 2, 1, 0, 3},
        {0, 0, 3, 3, 0, 1, 2, 6, 5, 4, 7},
        {0, 1, 2, 6, 5, 4, 7, 3, 0, 1, 2},
        {0, 1, 3, 2, 1, 0, 3, 7, 4, 5, 6},
        {0, 2, 0, 2, 1, 5, 6, 7, 4, 0, 3},
        {0, 2, 1, 3, 0, 4, 7, 6, 5, 1, 2},
        {0, 3, 0, 6, 5, 1, 2, 3, 0, 4, 7},
        {0, 3, 1, 7, 4, 0, 3, 2, 1, 5, 6},
        {1, 0, 2, 5, 6, 7, 4, 0, 3, 2, 1},
        {1, 0, 3, 1, 2, 3, 0, 4, 7, 6, 5},
        {1, 1, 2, 4, 7, 6, 5, 1, 2, 3, 0},
        {1, 1, 3, 0, 3, 2, 1, 5, 6, 7, 4},
        {1, 2, 0, 0, 3, 7, 4, 5, 6, 2, 1},
        {1, 2, 1, 1, 2, 6, 5, 4, 7, 3, 0},
        {1, 3, 0, 4, 7, 3, 0, 1, 2, 6, 5},
        {1, 3, 1, 5, 6, 2, 1, 0, 3, 7, 4},
        {2, 0, 0, 2, 6, 5, 1, 0, 4, 7, 3},
        {2, 0, 1, 3, 7, 4, 0, 1, 5, 6, 2},
        {2, 1, 0, 0, 4, 7, 3, 2, 6, 5, 1},
        {2, 1, 1, 1, 5, 6, 2, 3, 7, 4, 0},
        {3, 0, 0, 6, 2, 1, 5, 4, 0, 3, 7},
        {3, 0, 1, 7, 3, 0, 4, 5, 1, 2, 6},
        {3, 1, 0, 4, 0, 3, 7, 6, 2, 1, 5},
        {3, 1, 1, 5, 1, 2, 6, 7, 3, 0, 4}};

    private static int[] cellsOf(int[] folding) {
        return Sentences.row(8, place -> folding[3 + place]);
    }

    private static int[] placesOf(int[] folding) {
        int[] places = new int[8];
        for (int place = 0; place < 8; place++) {
            places[folding[3 + place]] = place;
        }
        return places;
    }

    private static String told(int[] folding) {
        return folding[0] + " " + folding[1] + " " + folding[2];
    }

    /** One order of one leaf, printed as often as told, each time on a sheet of its own. */
    private static Thumbreel withSheets(int sheets) {
        Thumbreel x = Sentences.withOrder(1, 0);
        for (int i = 0; i < sheets; i++) {
            Sentences.printOne(x);
        }
        return x;
    }

    private static void terms() {
        Sentences.sentence("Sheets", "Sheets are numbered from 0, at most 50.", () -> {
            Thumbreel x = withSheets(50);
            for (int sheet = 0; sheet < 50; sheet++) {
                Sentences.due("sheet " + sheet, x.onSheet(sheet, 4), 0);
            }
            Sentences.refused(Sentences.ELEMENT, "sheet 50", () -> x.onSheet(50, 4));
            Sentences.refused(Sentences.ELEMENT, "sheet -1", () -> x.onSheet(-1, 4));
            x.move(0, 0, 5);
            Sentences.refused(Sentences.STATE, "a 51st", () -> x.print(1));
            Sentences.due("all wait", x.waiting(), 50);
        });
        Sentences.sentence("Sheets", "A sheet has 2 rows of 4 cells, numbered from 0, row by row.", () -> {
            Thumbreel x = Sentences.withOrder(1, 1, 2, 3, 4, 5, 6, 7, 8);
            x.print(1);
            Sentences.dueRow("the cells", Sentences.sheetRow(x, 0), 7, 4, 5, 6, 0, 3, 2, 1);
            Sentences.refused(Sentences.INDEX, "cell 8", () -> x.onSheet(0, 8));
            Sentences.refused(Sentences.INDEX, "cell -1", () -> x.onSheet(0, -1));
        });
        Sentences.sentence("Sheets", "takes the first 8 leaves that are lacking (or all, if they are fewer)", () -> {
            for (int leaves = 1; leaves <= 8; leaves++) {
                Thumbreel x = Sentences.withOrder(1, new int[leaves]);
                Sentences.due("sheets for leaves: " + leaves, x.print(10), 1);
                Sentences.due("lacking then", x.lacking(0), 0);
            }
            Thumbreel x = Sentences.withOrder(3, 1, 2, 3);
            Sentences.due("nine leaves", x.print(1), 1);
            Sentences.due("one is left", x.lacking(0), 1);
            Sentences.due("the ninth", x.print(10), 1);
        });
        Sentences.sentence("Sheets", "other cells are empty", () -> {
            for (int leaves = 1; leaves < 8; leaves++) {
                Thumbreel x = Sentences.withOrder(1, new int[leaves]);
                x.print(1);
                for (int place = 0; place < 8; place++) {
                    int due = place < leaves ? place : Thumbreel.NONE;
                    Sentences.due("place " + place + " of " + leaves, x.onSheet(0, x.cellOf(place)), due);
                }
            }
        });
        Sentences.sentence("Sheets", "the leaf k of these lies in the cell that comes to the place k", () -> {
            for (int[] folding : FOLDINGS) {
                Thumbreel x = Sentences.withOrder(1, 0, 1, 2, 3, 4, 5, 6, 7);
                x.setFolds(folding[0], folding[1], folding[2]);
                x.print(1);
                Sentences.dueRow("the sheet by " + told(folding), Sentences.sheetRow(x, 0), placesOf(folding));
            }
        });
        Sentences.sentence("Sheets", "two of them LEFT or RIGHT, one UP or DOWN", () -> {
            int[] accepted = {0};
            for (int folds = 0; folds < 64; folds++) {
                int[] a = {folds / 16, folds / 4 % 4, folds % 4};
                Thumbreel x = new Thumbreel();
                boolean isDue = java.util.Arrays.stream(FOLDINGS).anyMatch(f -> told(f).equals(told(a)));
                if (isDue) {
                    x.setFolds(a[0], a[1], a[2]);
                    accepted[0]++;
                } else {
                    Sentences.refusedRun(Sentences.ARGUMENT, told(a), () -> x.setFolds(a[0], a[1], a[2]));
                    Sentences.dueRow("as at first", Sentences.cellRow(x), 4, 7, 6, 5, 1, 2, 3, 0);
                }
            }
            Sentences.due("folds that there are", accepted[0], 24);
        });
        Sentences.sentence("Sheets", "At last there is one pile; its places are numbered from 0, from the top.", () -> {
            Thumbreel x = new Thumbreel();
            Sentences.due("on top lies what is turned over last", x.cellOf(0), 4);
            Sentences.due("at the bottom what is never turned", x.cellOf(7), 0);
            x.setFolds(Thumbreel.LEFT, Thumbreel.LEFT, Thumbreel.DOWN);
            Sentences.due("on top by LEFT LEFT DOWN", x.cellOf(0), 3);
            Sentences.due("at the bottom", x.cellOf(7), 7);
            Sentences.refused(Sentences.INDEX, "place 8", () -> x.cellOf(8));
            Sentences.refused(Sentences.INDEX, "place -1", () -> x.cellOf(-1));
        });
    }

    private static void directions() {
        dueWith(Thumbreel.RIGHT, "With RIGHT the right half is turned over onto the left half");
        dueWith(Thumbreel.LEFT, "With LEFT the left half is turned over onto the right one");
        dueWith(Thumbreel.DOWN, "with DOWN the upper half onto the lower one");
        dueWith(Thumbreel.UP, "with UP the lower half onto the upper one");
    }

    private static void dueWith(int fold, String words) {
        Sentences.sentence("Sheets", words, () -> {
            Thumbreel x = new Thumbreel();
            for (int[] folding : FOLDINGS) {
                if (folding[0] == fold || folding[1] == fold || folding[2] == fold) {
                    x.setFolds(folding[0], folding[1], folding[2]);
                    Sentences.dueRow("cells by " + told(folding), Sentences.cellRow(x), cellsOf(folding));
                    Sentences.dueRow("places by " + told(folding), Sentences.placeRow(x), placesOf(folding));
                }
            }
        });
    }

    private static void promise11() {
        Sentences.sentence("Promise 11", "for sheets that are printed from now on", () -> {
            Thumbreel x = Sentences.withOrder(3, 0, 1, 2, 3, 4, 5, 6, 7);
            x.print(1);
            x.setFolds(Thumbreel.LEFT, Thumbreel.LEFT, Thumbreel.DOWN);
            Sentences.dueRow("printed before", Sentences.sheetRow(x, 0), 7, 4, 5, 6, 0, 3, 2, 1);
            x.print(1);
            x.setFolds(Thumbreel.UP, Thumbreel.RIGHT, Thumbreel.LEFT);
            Sentences.dueRow("printed then", Sentences.sheetRow(x, 1), 1001, 1002, 1003, 1000, 1006, 1005, 1004, 1007);
            x.print(1);
            Sentences.dueRow("printed now", Sentences.sheetRow(x, 2), 2000, 2007, 2004, 2003, 2001, 2006, 2005, 2002);
            Sentences.cutAll(x, 0);
            x.setFolds(Thumbreel.RIGHT, Thumbreel.DOWN, Thumbreel.RIGHT);
            for (int leaf = 0; leaf < 24; leaf++) {
                Sentences.due("leaf " + leaf + " by the folds of its sheet", x.leafByPiles(0, leaf / 8, leaf % 8), leaf % 8);
            }
        });
        Sentences.sentence("Promise 11", "if one is no fold", () -> {
            Thumbreel x = new Thumbreel();
            // Beside two of LEFT and RIGHT only the number that is no fold is wrong, as it is beside one of each.
            int[][] refused = {{-1, 1, 0}, {4, 1, 1}, {1, -1, 0}, {0, 4, 1}, {1, 1, -1}, {1, 0, 4},
                {-1, 1, 2}, {4, 1, 2}, {1, -1, 2}, {1, 4, 2}, {2, 1, 4}, {2, -1, 1}};
            for (int[] a : refused) {
                Sentences.refusedRun(Sentences.ARGUMENT, told(a), () -> x.setFolds(a[0], a[1], a[2]));
            }
            for (int far : Sentences.FAR) {
                Sentences.refusedRun(Sentences.ARGUMENT, "first " + far, () -> x.setFolds(far, 0, 2));
                Sentences.refusedRun(Sentences.ARGUMENT, "second " + far, () -> x.setFolds(0, far, 2));
                Sentences.refusedRun(Sentences.ARGUMENT, "third " + far, () -> x.setFolds(0, 0, far));
                Sentences.refusedRun(Sentences.ARGUMENT, "first, two sideways, " + far, () -> x.setFolds(far, 1, 0));
                Sentences.refusedRun(Sentences.ARGUMENT, "second, two sideways, " + far, () -> x.setFolds(1, far, 0));
            }
            Sentences.dueRow("as at first", Sentences.cellRow(x), 4, 7, 6, 5, 1, 2, 3, 0);
        });
        Sentences.sentence("Promise 11", "or they are not two of LEFT and RIGHT and one of UP and DOWN", () -> {
            Thumbreel x = new Thumbreel();
            x.setFolds(Thumbreel.DOWN, Thumbreel.LEFT, Thumbreel.RIGHT);
            int[][] refused = {{0, 0, 0}, {1, 1, 1}, {0, 1, 0}, {2, 2, 2}, {3, 3, 3}, {2, 3, 2}, {0, 2, 3}, {2, 1, 2},
                {3, 2, 0}};
            for (int[] a : refused) {
                Sentences.refusedRun(Sentences.ARGUMENT, told(a), () -> x.setFolds(a[0], a[1], a[2]));
            }
            Sentences.dueRow("as they were set", Sentences.cellRow(x), 7, 3, 0, 4, 5, 1, 2, 6);
        });
    }

    private static void promises12And13() {
        Sentences.sentence("Promise 12", "the cell that comes to a place by the folds as they are set", () -> {
            Thumbreel x = new Thumbreel();
            for (int[] folding : FOLDINGS) {
                x.setFolds(folding[0], folding[1], folding[2]);
                Sentences.dueRow("by " + told(folding), Sentences.cellRow(x), cellsOf(folding));
            }
        });
        Sentences.sentence("Promise 12", "`place`: 0 to 7", () -> {
            Thumbreel x = new Thumbreel();
            Sentences.due("0", x.cellOf(0), 4);
            Sentences.due("7", x.cellOf(7), 0);
        });
        Sentences.sentence("Promise 12", "Throws `IndexOutOfBoundsException` as told", () -> {
            Thumbreel x = new Thumbreel();
            Sentences.refused(Sentences.INDEX, "8", () -> x.cellOf(8));
            Sentences.refused(Sentences.INDEX, "-1", () -> x.cellOf(-1));
            for (int far : Sentences.FAR) {
                Sentences.refused(Sentences.INDEX, "place " + far, () -> x.cellOf(far));
            }
        });
        Sentences.sentence("Promise 13", "the place to which a cell comes by the folds as they are set", () -> {
            Thumbreel x = new Thumbreel();
            for (int[] folding : FOLDINGS) {
                x.setFolds(folding[0], folding[1], folding[2]);
                Sentences.dueRow("by " + told(folding), Sentences.placeRow(x), placesOf(folding));
            }
        });
        Sentences.sentence("Promise 13", "`cell`: 0 to 7", () -> {
            Thumbreel x = new Thumbreel();
            Sentences.due("0", x.placeOf(0), 7);
            Sentences.due("7", x.placeOf(7), 1);
        });
        Sentences.sentence("Promise 13", "Throws `IndexOutOfBoundsException` as told", () -> {
            Thumbreel x = new Thumbreel();
            Sentences.refused(Sentences.INDEX, "8", () -> x.placeOf(8));
            Sentences.refused(Sentences.INDEX, "-1", () -> x.placeOf(-1));
            for (int far : Sentences.FAR) {
                Sentences.refused(Sentences.INDEX, "cell " + far, () -> x.placeOf(far));
            }
        });
    }

    private static void promise14() {
        Sentences.sentence("Promise 14", "Prints sheets, as long as leaves are lacking.", () -> {
            Thumbreel none = new Thumbreel();
            Sentences.due("no books", none.print(10), 0);
            none.addBook();
            none.order(0, 3);
            Sentences.due("no frames", none.print(1), 0);
            Sentences.due("no sheet", none.waiting(), 0);
            Thumbreel x = Sentences.withOrder(2, 1, 2, 3, 4, 5, 6, 7, 8);
            Sentences.due("16 leaves", x.print(10), 2);
            Sentences.due("none is left", x.print(1), 0);
            Sentences.due("no third sheet", x.waiting(), 2);
            Thumbreel y = Sentences.withOrder(3, 1, 2, 3);
            Sentences.due("9 leaves", y.print(10), 2);
            Sentences.due("none is left", y.print(10), 0);
        });
        Sentences.sentence("Promise 14", "`sheets`: 1 to 10: how many at most", () -> {
            Thumbreel x = Sentences.withBook();
            Sentences.fillBook(x, 0);
            x.order(0, 3);
            Sentences.due("at most 1 of 17", x.print(1), 1);
            Sentences.due("at most 2 of 16", x.print(2), 2);
            Sentences.due("at most 10 of 14", x.print(10), 10);
            Sentences.due("lacking", x.lacking(0), 129 - 13 * 8);
            Sentences.due("at most 3 of 4", x.print(3), 3);
            Sentences.due("the last", x.print(10), 1);
            Sentences.due("all wait", x.waiting(), 17);
        });
        Sentences.sentence("Promise 14", "if sheets is out of range", () -> {
            Thumbreel x = Sentences.withOrder(1, 1);
            Sentences.refused(Sentences.ARGUMENT, "0", () -> x.print(0));
            Sentences.refused(Sentences.ARGUMENT, "-1", () -> x.print(-1));
            Sentences.refused(Sentences.ARGUMENT, "11", () -> x.print(11));
            for (int far : Sentences.FAR) {
                Sentences.refused(Sentences.ARGUMENT, "sheets: " + far, () -> x.print(far));
            }
            Sentences.due("none was printed", x.lacking(0), 1);
            x.print(1);
            Sentences.refused(Sentences.ARGUMENT, "0, as nothing lacks", () -> x.print(0));
            Sentences.refused(Sentences.ARGUMENT, "11, as nothing lacks", () -> x.print(11));
        });
        Sentences.sentence("Promise 14", "if there would be more than 50 then, by those that would be printed", () -> {
            Thumbreel x = withSheets(48);
            x.addBook();
            Sentences.addDrawings(x, 1, 1, 2, 3, 4, 5, 6, 7, 8);
            x.order(1, 3);
            Sentences.refused(Sentences.STATE, "48 and 3", () -> x.print(3));
            Sentences.refused(Sentences.STATE, "48 and 3, of at most 10", () -> x.print(10));
            Sentences.due("none was printed", x.lacking(1), 24);
            Sentences.due("none waits more", x.waiting(), 48);
            Sentences.due("49", x.print(1), 1);
            Sentences.refused(Sentences.STATE, "49 and 2", () -> x.print(2));
            x.order(0, 1);
            Sentences.due("50", x.print(1), 1);
            Sentences.refused(Sentences.STATE, "50 and 1", () -> x.print(1));
        });
        limit();
    }

    private static void limit() {
        Sentences.sentence("Promise 14", "if there would be more than 50 then", () -> {
            Thumbreel x = withSheets(49);
            x.move(0, 0, 77);
            Sentences.due("one leaf: 49 and 1, of at most 10", x.print(10), 1);
            Sentences.due("nothing lacks: 50 and 0", x.print(10), 0);
            Sentences.due("50 and 0, of at most 1", x.print(1), 0);
            Sentences.cutAll(x, 0);
            x.move(0, 0, 78);
            Sentences.refused(Sentences.STATE, "all are cut: 50 and 1", () -> x.print(1));
            Thumbreel y = withSheets(50);
            y.move(0, 0, 77);
            Sentences.due("discard()", y.discard(), 50);
            Sentences.refused(Sentences.STATE, "all are thrown away: 50 and 1", () -> y.print(1));
        });
    }

    private static void promise15() {
        Sentences.sentence("Promise 15", "Returns how many sheets wait to be cut.", () -> {
            Thumbreel x = new Thumbreel();
            Sentences.due("none is printed", x.waiting(), 0);
            Thumbreel y = withSheets(50);
            Sentences.due("all", y.waiting(), 50);
            y.cut(0);
            Sentences.due("but one", y.waiting(), 49);
            y.discard();
            Sentences.due("the one of use", y.waiting(), 1);
            y.cut(1);
            Sentences.due("none", y.waiting(), 0);
            Thumbreel z = withSheets(2);
            z.move(0, 0, 5);
            Sentences.due("sheets of no use wait", z.waiting(), 2);
        });
    }

    private static void promise16() {
        Sentences.sentence("Promise 16", "Returns what lies in a cell of a sheet that was printed.", () -> {
            Thumbreel x = withSheets(3);
            x.cut(0);
            Sentences.due("a sheet that is cut", x.onSheet(0, 4), 0);
            x.erase(0, 0);
            Sentences.due("a spoiled leaf", x.onSheet(2, 4), 0);
            x.discard();
            Sentences.due("a sheet that was thrown away", x.onSheet(1, 4), 0);
            Sentences.due("an empty cell of it", x.onSheet(1, 0), -1);
        });
        Sentences.sentence("Promise 16", "10000 times the order, 1000 times the copy, and the frame, together", () -> {
            Thumbreel x = Sentences.withBook(1);
            for (int order = 0; order < 4; order++) {
                x.order(0, 1);
            }
            x.addBook();
            Sentences.fillBook(x, 1);
            x.order(1, 3);
            x.print(10);
            x.print(10);
            Sentences.due("the first leaf of the longest book", x.onSheet(0, 4), 40000);
            Sentences.dueRow("the last sheet", Sentences.pileRow(x, 16), 42042, 0, 10000, 20000, 30000, -1, -1, -1);
        });
        Sentences.sentence("Promise 16", "NONE if the cell is empty", () -> {
            Thumbreel x = Sentences.withOrder(1, 1);
            x.print(1);
            Sentences.dueRow("one leaf", Sentences.sheetRow(x, 0), -1, -1, -1, -1, 0, -1, -1, -1);
        });
        Sentences.sentence("Promise 16", "Throws `IndexOutOfBoundsException` as told, of the cell", () -> {
            Thumbreel x = withSheets(1);
            Sentences.refused(Sentences.INDEX, "8", () -> x.onSheet(0, 8));
            Sentences.refused(Sentences.INDEX, "-1", () -> x.onSheet(0, -1));
            for (int far : Sentences.FAR) {
                Sentences.refused(Sentences.INDEX, "cell " + far, () -> x.onSheet(0, far));
            }
        });
        Sentences.sentence("Promise 16", "if there is no such sheet", () -> {
            Thumbreel x = withSheets(2);
            Sentences.refused(Sentences.ELEMENT, "2", () -> x.onSheet(2, 4));
            Sentences.refused(Sentences.ELEMENT, "-1", () -> x.onSheet(-1, 4));
            for (int far : Sentences.FAR) {
                Sentences.refused(Sentences.ELEMENT, "sheet " + far, () -> x.onSheet(far, 7));
            }
            Sentences.due("1", x.onSheet(1, 4), 0);
        });
    }

    public static void main(String[] args) {
        terms();
        directions();
        promise11();
        promises12And13();
        promise14();
        promise15();
        promise16();
        Sentences.finish("Sheets", "Promise 11", "Promise 12", "Promise 13", "Promise 14", "Promise 15", "Promise 16");
    }
}
