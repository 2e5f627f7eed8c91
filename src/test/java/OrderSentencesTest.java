/** The sentences about orders and leaves that name a boundary case: promises 8 to 10 and the terms behind them. */
public final class OrderSentencesTest {
    private static void terms() {
        Sentences.sentence("Orders and leaves", "Orders are numbered from 0, at most 5.", () -> {
            Thumbreel x = Sentences.withBook(1);
            x.addBook();
            for (int order = 0; order < 5; order++) {
                int number = order;
                Sentences.refused(Sentences.INDEX, "an order yet to come", () -> x.lacking(number));
                Sentences.due("order", x.order(order % 2, 1), order);
                Sentences.due("its leaves", x.lacking(order), 1 - order % 2);
            }
            Sentences.refused(Sentences.STATE, "a sixth for the one book", () -> x.order(0, 1));
            Sentences.refused(Sentences.STATE, "a sixth for the other", () -> x.order(1, 1));
            Sentences.refused(Sentences.INDEX, "order 5", () -> x.lacking(5));
            Sentences.refused(Sentences.INDEX, "order -1", () -> x.lacking(-1));
        });
        Sentences.sentence("Orders and leaves", "has 1 to 3 copies, numbered from 0", () -> {
            Thumbreel x = Sentences.withBook();
            for (int copies = 1; copies <= 3; copies++) {
                int order = x.order(0, copies);
                int behind = copies;
                for (int copy = 0; copy < copies; copy++) {
                    Sentences.due("bind", x.bind(order, copy), 0);
                }
                Sentences.refused(Sentences.INDEX, "copy " + copies, () -> x.bind(order, behind));
                Sentences.refused(Sentences.INDEX, "copy -1", () -> x.bind(order, -1));
            }
        });
        Sentences.sentence("Orders and leaves", "A copy needs a leaf for each frame that its book has by now", () -> {
            Thumbreel x = Sentences.withOrder(1);
            Sentences.due("no frame", x.lacking(0), 0);
            x.draw(0, 0, 1, 5, 0);
            Sentences.due("one frame", x.lacking(0), 1);
            x.draw(0, 1, 1, 5, 0);
            Sentences.due("seven frames", x.lacking(0), 7);
            x.erase(0, 0);
            x.erase(0, 0);
            Sentences.due("no frame any more", x.lacking(0), 0);
            Sentences.fillBook(x, 0);
            Sentences.due("the most that there can be", x.lacking(0), 43);
        });
        Sentences.sentence("Orders and leaves", "until it is bound", () -> {
            Thumbreel x = Sentences.withOrder(2);
            x.bind(0, 0);
            x.draw(0, 0, 1, 0, 0);
            Sentences.due("only the copy that is not bound", x.lacking(0), 1);
            x.print(1);
            Sentences.dueRow("its leaf", Sentences.pileRow(x, 0), 1000, -1, -1, -1, -1, -1, -1, -1);
            x.cut(0);
            x.bind(0, 1);
            x.draw(0, 1, 2, 0, 0);
            Sentences.due("none", x.lacking(0), 0);
            Sentences.due("no sheet", x.print(1), 0);
        });
        Sentences.sentence("Orders and leaves", "shows the position of the frame when it was printed", () -> {
            Thumbreel x = Sentences.withOrder(1, 5, 6);
            x.print(1);
            x.move(0, 1, 7);
            x.cut(0);
            Sentences.due("as it was and is", x.leaf(0, 0, 0), 5);
            x.print(1);
            x.cut(0);
            Sentences.due("as it was at the second printing", x.leaf(0, 0, 1), 7);
            x.bind(0, 0);
            x.move(0, 0, 900);
            Sentences.due("as it was before it was bound", x.leaf(0, 0, 0), 5);
            Sentences.due("found by piles", x.leafByPiles(0, 0, 0), 5);
        });
        spoiling();
        turns();
    }

    private static void spoiling() {
        Sentences.sentence("Orders and leaves", "It is spoiled as soon as the frame of its book is at another position",
            () -> {
                Thumbreel x = Sentences.withOrder(1, 500);
                x.print(1);
                Sentences.due("the same position", x.move(0, 0, 500), 0);
                Sentences.due("one more", x.move(0, 0, 501), 1);
                x.print(1);
                Sentences.due("one less", x.move(0, 0, 500), 1);
                x.print(1);
                x.cut(0);
                x.cut(0);
                x.cut(0);
                Sentences.due("a leaf that is cut", x.move(0, 0, 0), 1);
                x.addBook();
                Sentences.addDrawings(x, 1, 5);
                x.print(1);
                Sentences.due("another book", x.move(1, 0, 6), 0);
                Sentences.due("spoiled()", x.spoiled(), 3);
            });
        Sentences.sentence("Orders and leaves", "or there is no such frame any more", () -> {
            Thumbreel x = Sentences.withOrder(1, 0, 0);
            x.print(1);
            Sentences.due("the last frame, at position 0", x.erase(0, 1), 1);
            Sentences.due("the only one", x.erase(0, 0), 1);
            Sentences.due("spoiled()", x.spoiled(), 2);
            Thumbreel y = new Thumbreel();
            y.addBook();
            y.draw(0, 0, 8, 5, 0);
            y.draw(0, 1, 8, 0, 0);
            y.order(0, 1);
            y.print(1);
            Sentences.due("six frames less, all at one position", y.erase(0, 0), 6);
        });
        Sentences.sentence("Orders and leaves", "while the copy is not bound", () -> {
            Thumbreel x = Sentences.withOrder(2, 1, 2);
            x.print(1);
            x.cut(0);
            x.bind(0, 0);
            Sentences.due("only the copy that is not bound", x.move(0, 0, 3), 1);
            Sentences.due("and by its end", x.erase(0, 1), 1);
            Sentences.due("the bound one keeps its first", x.leaf(0, 0, 0), 1);
            Sentences.due("and its last", x.leaf(0, 0, 1), 2);
            Sentences.due("spoiled()", x.spoiled(), 2);
        });
        Sentences.sentence("Orders and leaves", "a spoiled leaf is of no use any more", () -> {
            Thumbreel x = Sentences.withOrder(1, 5);
            x.print(1);
            x.cut(0);
            x.move(0, 0, 6);
            Sentences.due("back to what it shows", x.move(0, 0, 5), 0);
            Sentences.due("it lacks", x.lacking(0), 1);
            Sentences.due("leaf", x.leaf(0, 0, 0), -1);
            Sentences.due("leafByPiles", x.leafByPiles(0, 0, 0), -1);
            Sentences.due("trim", x.trim(0, 0, 0), -1);
            Sentences.refused(Sentences.STATE, "bind", () -> x.bind(0, 0));
            x.erase(0, 0);
            x.draw(0, 0, 5, 0, 0);
            Sentences.due("it lacks still", x.lacking(0), 1);
            x.print(1);
            Sentences.due("spoiled once", x.move(0, 0, 6), 1);
        });
    }

    private static void turns() {
        Sentences.sentence("Orders and leaves", "the orders with more frames ahead (by now)", () -> {
            Thumbreel x = Sentences.withOrder(1, 1, 2);
            x.addBook();
            Sentences.addDrawings(x, 1, 1, 2, 3);
            x.order(1, 1);
            x.print(1);
            Sentences.dueRow("3 frames ahead of 2", Sentences.pileRow(x, 0), 10000, 10001, 10002, 0, 1, -1, -1, -1);
            x.draw(0, 0, 9, 0, 0);
            x.draw(0, 0, 8, 0, 0);
            x.move(1, 0, 9);
            x.print(1);
            Sentences.dueRow("now 4 ahead of 3", Sentences.pileRow(x, 1), 0, 1, 2, 3, 10000, -1, -1, -1);
            Thumbreel y = Sentences.withOrder(3, 1);
            y.addBook();
            Sentences.addDrawings(y, 1, 1, 2);
            y.order(1, 1);
            y.print(1);
            Sentences.dueRow("whatever the copies", Sentences.pileRow(y, 0), 10000, 10001, 0, 1000, 2000, -1, -1, -1);
        });
        Sentences.sentence("Orders and leaves", "those with as many by their numbers", () -> {
            Thumbreel x = Sentences.withOrder(1, 1);
            x.addBook();
            Sentences.addDrawings(x, 1, 1);
            x.order(1, 1);
            x.order(0, 1);
            x.order(1, 1);
            x.order(0, 1);
            x.print(1);
            Sentences.dueRow("all of one frame", Sentences.pileRow(x, 0), 0, 10000, 20000, 30000, 40000, -1, -1, -1);
            x.draw(1, 1, 2, 0, 0);
            x.draw(0, 1, 2, 0, 0);
            x.print(1);
            Sentences.dueRow("all of two", Sentences.pileRow(x, 1), 1, 10001, 20001, 30001, 40001, -1, -1, -1);
        });
        Sentences.sentence("Orders and leaves", "copy by copy, frame by frame", () -> {
            Thumbreel x = Sentences.withOrder(3, 1, 2, 3);
            x.print(10);
            Sentences.dueRow("the first eight", Sentences.pileRow(x, 0), 0, 1, 2, 1000, 1001, 1002, 2000, 2001);
            Sentences.dueRow("the last", Sentences.pileRow(x, 1), 2002, -1, -1, -1, -1, -1, -1, -1);
        });
        Sentences.sentence("Orders and leaves", "the leaves for which no printed one is there", () -> {
            Thumbreel x = Sentences.withOrder(2, 1, 2, 3);
            x.print(1);
            x.move(0, 1, 9);
            x.draw(0, 3, 4, 0, 0);
            Sentences.due("lacking", x.lacking(0), 4);
            x.print(1);
            Sentences.dueRow("the gaps", Sentences.pileRow(x, 1), 1, 3, 1001, 1003, -1, -1, -1, -1);
            Sentences.due("a printed one is there, though not cut", x.lacking(0), 0);
        });
    }

    private static void promise8() {
        Sentences.sentence("Promise 8", "`copies`: 1 to 3", () -> {
            Thumbreel x = Sentences.withBook(1, 2);
            for (int copies = 1; copies <= 3; copies++) {
                int order = x.order(0, copies);
                Sentences.due("leaves", x.lacking(order), 2 * copies);
            }
        });
        Sentences.sentence("Promise 8", "Returns its number.", () -> {
            Thumbreel x = Sentences.withBook(1);
            for (int order = 0; order < 5; order++) {
                Sentences.due("order", x.order(0, 1), order);
            }
        });
        Sentences.sentence("Promise 8", "Throws `IndexOutOfBoundsException` as told", () -> {
            Thumbreel x = Sentences.withBook(1);
            Sentences.refused(Sentences.INDEX, "book 1", () -> x.order(1, 1));
            Sentences.refused(Sentences.INDEX, "book -1", () -> x.order(-1, 1));
            for (int far : Sentences.FAR) {
                Sentences.refused(Sentences.INDEX, "book " + far, () -> x.order(far, 1));
            }
            Sentences.due("none was taken", x.order(0, 1), 0);
        });
        Sentences.sentence("Promise 8", "if copies is out of range", () -> {
            Thumbreel x = Sentences.withBook(1);
            Sentences.refused(Sentences.ARGUMENT, "0", () -> x.order(0, 0));
            Sentences.refused(Sentences.ARGUMENT, "4", () -> x.order(0, 4));
            Sentences.refused(Sentences.ARGUMENT, "-1", () -> x.order(0, -1));
            for (int far : Sentences.FAR) {
                Sentences.refused(Sentences.ARGUMENT, "copies: " + far, () -> x.order(0, far));
            }
            Sentences.due("none was taken", x.order(0, 1), 0);
        });
        Sentences.sentence("Promise 8", "if there are 5", () -> {
            Thumbreel x = Sentences.withBook();
            for (int order = 0; order < 5; order++) {
                x.order(0, 1);
                x.bind(order, 0);
            }
            Sentences.refused(Sentences.STATE, "a sixth, though all are bound", () -> x.order(0, 1));
            Sentences.refused(Sentences.STATE, "once more", () -> x.order(0, 3));
            Sentences.refused(Sentences.INDEX, "there is none", () -> x.isBound(5, 0) ? 1 : 0);
        });
    }

    private static void promise9() {
        Sentences.sentence("Promise 9", "Returns how many leaves are lacking for an order.", () -> {
            Thumbreel x = Sentences.withOrder(3, 1, 2, 3);
            x.order(0, 1);
            Sentences.due("all", x.lacking(0), 9);
            Sentences.due("all of the other", x.lacking(1), 3);
            x.print(1);
            Sentences.due("all but eight", x.lacking(0), 1);
            Sentences.due("none of the other", x.lacking(1), 3);
            x.print(1);
            Sentences.due("none", x.lacking(0) + x.lacking(1), 0);
            x.move(0, 2, 4);
            Sentences.due("one a copy", x.lacking(0), 3);
            Sentences.due("and of the other", x.lacking(1), 1);
            x.erase(0, 2);
            Sentences.due("no such frame any more", x.lacking(0), 0);
            Thumbreel y = Sentences.withBook();
            Sentences.fillBook(y, 0);
            y.order(0, 3);
            Sentences.due("the most that there can be", y.lacking(0), 129);
        });
        Sentences.sentence("Promise 9", "Throws `IndexOutOfBoundsException` as told", () -> {
            Thumbreel x = Sentences.withOrder(1, 1);
            Sentences.refused(Sentences.INDEX, "order 1", () -> x.lacking(1));
            Sentences.refused(Sentences.INDEX, "order -1", () -> x.lacking(-1));
            for (int far : Sentences.FAR) {
                Sentences.refused(Sentences.INDEX, "order " + far, () -> x.lacking(far));
            }
        });
    }

    private static void promise10() {
        Sentences.sentence("Promise 10", "until none of the leaves that are lacking for an order is lacking", () -> {
            for (int frames = 0; frames <= 8; frames++) {
                int[] positions = new int[frames];
                Thumbreel one = Sentences.withOrder(1, positions);
                Sentences.due("one copy of frames: " + frames, one.waits(0), frames == 0 ? 0 : 1);
                Thumbreel three = Sentences.withOrder(3, positions);
                Sentences.due("three copies of frames: " + frames, three.waits(0), (3 * frames + 7) / 8);
            }
            Thumbreel x = Sentences.withOrder(3, 1, 2, 3);
            Sentences.due("nine leaves", x.waits(0), 2);
            x.print(1);
            Sentences.due("one leaf", x.waits(0), 1);
            x.print(1);
            Sentences.due("none, though they wait", x.waits(0), 0);
            Thumbreel y = Sentences.withOrder(1, 1, 2, 3);
            y.addBook();
            Sentences.addDrawings(y, 1, 1, 2);
            y.order(1, 1);
            y.print(1);
            y.move(0, 0, 9);
            Sentences.due("one lacks of the order ahead", y.waits(0), 1);
            Sentences.due("none of its own, whatever lacks ahead", y.waits(1), 0);
            y.move(1, 1, 9);
            Sentences.due("one of its own, on the sheet that they share", y.waits(1), 1);
        });
        Sentences.sentence("Promise 10", "as things are now", () -> {
            Thumbreel x = Sentences.withOrder(2, 1, 2, 3, 4);
            x.addBook();
            Sentences.addDrawings(x, 1, 1, 2, 3, 4);
            x.order(1, 1);
            Sentences.due("eight leaves", x.waits(0), 1);
            Sentences.due("four behind eight", x.waits(1), 2);
            x.draw(1, 4, 5, 0, 0);
            Sentences.due("now five ahead of eight", x.waits(1), 1);
            Sentences.due("eight behind five", x.waits(0), 2);
            x.erase(0, 3);
            x.erase(0, 2);
            Sentences.due("four behind five", x.waits(0), 2);
            x.erase(1, 4);
            x.erase(1, 3);
            Sentences.due("four behind three, on the sheet that they share", x.waits(0), 1);
            x.erase(1, 2);
            Sentences.due("as many frames: four, then two", x.waits(1), 1);
            x.order(0, 1);
            x.order(0, 1);
            Sentences.due("four, two and two", x.waits(2), 1);
            Sentences.due("four, two, two and two", x.waits(3), 2);
        });
        Sentences.sentence("Promise 10", "Throws `IndexOutOfBoundsException` as told", () -> {
            Thumbreel x = Sentences.withOrder(1, 1);
            Sentences.refused(Sentences.INDEX, "order 1", () -> x.waits(1));
            Sentences.refused(Sentences.INDEX, "order -1", () -> x.waits(-1));
            for (int far : Sentences.FAR) {
                Sentences.refused(Sentences.INDEX, "order " + far, () -> x.waits(far));
            }
        });
    }

    public static void main(String[] args) {
        terms();
        promise8();
        promise9();
        promise10();
        Sentences.finish("Orders and leaves", "Promise 8", "Promise 9", "Promise 10");
    }
}
