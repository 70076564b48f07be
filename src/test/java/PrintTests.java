/** Promises 14 to 17: print, sell, stock and errata. */
final class PrintTests {
    private static final int NONE = SheetMaker.NONE;
    private static final int[] NO_SHEETS = {-1, 1, 6, Integer.MAX_VALUE, Integer.MIN_VALUE};

    private PrintTests() {
    }

    public static void main(String[] args) {
        copiesArePrintedAndSold();
        printAddsToTheStock();
        printAnewThrowsOldCopiesAway();
        printRefuses();
        sellTakesFromTheStock();
        sellRefuses();
        stockRefuses();
        errataRefuses();
        labelsMakeErrata();
        samePlacesAreNoErrata();
        roadsMakeErrata();
        samePointsAreNoErrata();
        errataAreCountedTogether();
        everyPointOfEveryRoadIsPrinted();
        sheetsAreOfTheirOwn();
        Check.end();
    }

    private static SheetMaker oneSheet() {
        SheetMaker maker = new SheetMaker();
        maker.sheet(0, 0, 0, 39, 39, NONE);
        return maker;
    }

    private static void copiesArePrintedAndSold() {
        SheetMaker maker = new SheetMaker();
        int[] copies = new int[6];
        for (int sheet = 0; sheet < 6; sheet++) {
            maker.sheet(sheet % 4, 0, 0, 39, 39, NONE);
        }
        for (int turn = 0; turn < 40; turn++) {
            int sheet = turn % 6;
            copies[sheet] += 1 + turn;
            Check.sentence("Promise 14: Prints copies of a sheet");
            Check.due("copies with " + (1 + turn) + " more", maker.print(sheet, 1 + turn), copies[sheet]);
            copies[sheet] -= 1 + turn / 3;
            Check.sentence("Promise 15: Sells copies of a sheet");
            Check.due("errata of what is sold", maker.sell(sheet, 1 + turn / 3), 0);
            Check.sentence("Promise 16: Returns how many copies");
            for (int s = 0; s < 6; s++) {
                Check.due("stock of sheet " + s + " in turn " + turn, maker.stock(s), copies[s]);
            }
        }
    }

    private static void printAddsToTheStock() {
        Check.sentence("Promise 14: Returns the stock then");
        SheetMaker maker = oneSheet();
        Check.due("a first copy", maker.print(0, 1), 1);
        Check.due("and a hundred", maker.print(0, 100), 101);
        Check.due("stock", maker.stock(0), 101);
        for (int i = 2; i < 10; i++) {
            maker.print(0, 100);
        }
        Check.due("up to 1000", maker.print(0, 99), 1000);
        Check.sentence("Promise 14: Throws IllegalStateException if the stock would be above 1000");
        Check.dueThrow("above 1000", Check.REFUSED, () -> maker.print(0, 1));
        Check.dueThrow("far above 1000", Check.REFUSED, () -> maker.print(0, 100));
        Check.due("stock as it was", maker.stock(0), 1000);
        maker.name(5, 5, 2, 0);
        Check.due("a full stock with errata is printed anew", maker.print(0, 100), 100);
    }

    private static void printAnewThrowsOldCopiesAway() {
        Check.sentence("printing it anew while it has errata throws the old copies away");
        SheetMaker maker = oneSheet();
        maker.name(5, 5, 2, 0);
        Check.due("labels ahead of the first print are no errata", maker.errata(0), 0);
        maker.print(0, 10);
        maker.shift(0, 6, 5);
        Check.due("the old copies are there still", maker.stock(0), 10);
        Check.due("printed anew", maker.print(0, 3), 3);
        Check.due("no errata then", maker.errata(0), 0);
        Check.due("and added to", maker.print(0, 3), 6);
        maker.shift(0, 5, 5);
        Check.due("what was printed first is another thing now", maker.errata(0), 1);
        maker.shift(0, 6, 5);
        Check.due("nothing thrown away if it is put right again", maker.print(0, 1), 7);
    }

    private static void printRefuses() {
        Check.sentence("Promise 14: Throws IndexOutOfBoundsException if there is no such sheet");
        SheetMaker maker = oneSheet();
        Check.dueThrow("print of sheet -1", Check.NO_SUCH, () -> maker.print(-1, 0));
        Check.dueThrow("print of sheet 1", Check.NO_SUCH, () -> maker.print(1, 101));
        Check.sentence("Promise 14: Throws IllegalArgumentException if many is out of range");
        Check.dueThrow("print of none", Check.OUT_OF_RANGE, () -> maker.print(0, 0));
        Check.dueThrow("print of 101", Check.OUT_OF_RANGE, () -> maker.print(0, 101));
        Check.dueThrow("print of -1", Check.OUT_OF_RANGE, () -> maker.print(0, -1));
        Check.dueThrow("print of the most", Check.OUT_OF_RANGE, () -> maker.print(0, Integer.MAX_VALUE));
        Check.due("no stock", maker.stock(0), 0);
        maker.name(5, 5, 2, 0);
        Check.due("not printed yet", maker.errata(0), 0);
        for (int i = 0; i < 10; i++) {
            maker.print(0, 100);
        }
        Check.dueThrow("print of 101 to a full stock", Check.OUT_OF_RANGE, () -> maker.print(0, 101));
        Check.sentence("Promise 14: Throws IllegalStateException if the stock would be above 1000");
        Check.dueThrow("print to a full stock", Check.REFUSED, () -> maker.print(0, 100));
        maker.shift(0, 6, 5);
        Check.due("errata are against the last print", maker.errata(0), 1);
    }

    private static void sellTakesFromTheStock() {
        Check.sentence("Promise 15: Returns the errata that go with them");
        SheetMaker maker = oneSheet();
        maker.name(5, 5, 2, 0);
        maker.name(5, 9, 2, 0);
        maker.print(0, 100);
        Check.due("sold with no errata", maker.sell(0, 1), 0);
        Check.due("stock then", maker.stock(0), 99);
        maker.shift(0, 6, 5);
        Check.due("sold with an erratum", maker.sell(0, 8), 1);
        maker.shift(1, 6, 9);
        Check.due("sold with errata", maker.sell(0, 91), 2);
        Check.due("sold out", maker.stock(0), 0);
        Check.due("the errata stand", maker.errata(0), 2);
        Check.due("printed anew", maker.print(0, 5), 5);
        for (int i = 0; i < 9; i++) {
            maker.print(0, 100);
        }
        maker.print(0, 95);
        Check.due("all thousand at once", maker.sell(0, 1000), 0);
        Check.due("sold out again", maker.stock(0), 0);
    }

    private static void sellRefuses() {
        Check.sentence("Promise 15: Throws IndexOutOfBoundsException if there is no such sheet");
        SheetMaker maker = oneSheet();
        Check.dueThrow("sell of sheet -1", Check.NO_SUCH, () -> maker.sell(-1, 0));
        Check.dueThrow("sell of sheet 1", Check.NO_SUCH, () -> maker.sell(1, 1001));
        Check.sentence("Promise 15: Throws IllegalArgumentException if many is out of range");
        Check.dueThrow("sell of none", Check.OUT_OF_RANGE, () -> maker.sell(0, 0));
        Check.dueThrow("sell of -1", Check.OUT_OF_RANGE, () -> maker.sell(0, -1));
        Check.dueThrow("sell of 1001", Check.OUT_OF_RANGE, () -> maker.sell(0, 1001));
        Check.dueThrow("sell of the least", Check.OUT_OF_RANGE, () -> maker.sell(0, Integer.MIN_VALUE));
        Check.sentence("Promise 15: Throws IllegalStateException if the stock is less");
        Check.dueThrow("sell of what was not printed", Check.REFUSED, () -> maker.sell(0, 1));
        Check.dueThrow("sell of 1000 not printed", Check.REFUSED, () -> maker.sell(0, 1000));
        maker.print(0, 10);
        Check.dueThrow("sell of more than there are", Check.REFUSED, () -> maker.sell(0, 11));
        Check.due("stock as it was", maker.stock(0), 10);
        Check.due("sell of all", maker.sell(0, 10), 0);
    }

    private static void stockRefuses() {
        Check.sentence("Promise 16: Throws IndexOutOfBoundsException if there is no such sheet");
        SheetMaker maker = oneSheet();
        for (int number : NO_SHEETS) {
            Check.dueThrow("stock of sheet " + number, Check.NO_SUCH, () -> maker.stock(number));
        }
    }

    private static void errataRefuses() {
        Check.sentence("Promise 17: Throws IndexOutOfBoundsException if there is no such sheet");
        SheetMaker maker = oneSheet();
        for (int number : NO_SHEETS) {
            Check.dueThrow("errata of sheet " + number, Check.NO_SUCH, () -> maker.errata(number));
        }
    }

    private static void labelsMakeErrata() {
        Check.sentence("the names whose label is another one, or none, or there is one, other than when it was "
            + "printed last");
        SheetMaker maker = oneSheet();
        maker.print(0, 1);
        maker.name(5, 5, 2, 0);
        Check.due("a label that was not there", maker.errata(0), 1);
        maker.print(0, 1);
        maker.name(5, 5, 2, 3);
        Check.due("a new label, and one that made way", maker.errata(0), 2);
        maker.print(0, 1);
        maker.shift(0, 30, 30);
        Check.due("a label elsewhere, on the same side or not", maker.errata(0), 1);
        maker.shift(0, 5, 5);
        Check.due("put right", maker.errata(0), 0);
        maker.sheet(0, 0, 0, 9, 9, NONE);
        maker.print(1, 1);
        maker.shift(0, 30, 30);
        Check.due("a label that is none now", maker.errata(1), 1);
        maker.print(1, 1);
        maker.shift(0, 31, 30);
        Check.due("none as before", maker.errata(1), 0);
    }

    private static void samePlacesAreNoErrata() {
        Check.sentence("Labels are the same if they take the same places");
        SheetMaker maker = new SheetMaker();
        maker.sheet(0, 0, 0, 11, 39, NONE);
        maker.name(5, 5, 3, 0);
        maker.print(0, 1);
        Check.due("to its right", maker.label(0, 0), SheetMaker.RIGHT);
        Check.due("to the other end of its label", maker.shift(0, 9, 5), 0);
        Check.due("to its left", maker.label(0, 0), SheetMaker.LEFT);
        maker.shift(0, 10, 5);
        Check.due("one further on", maker.errata(0), 1);
        SheetMaker upright = new SheetMaker();
        upright.sheet(0, 10, 10, 12, 15, NONE);
        upright.name(10, 12, 3, 0);
        upright.print(0, 1);
        Check.due("above", upright.label(0, 0), SheetMaker.ABOVE);
        Check.due("beyond the row of its label, that is above again", upright.shift(0, 10, 14), 1);
        Check.due("where the row of its label is below", upright.shift(0, 10, 15), 1);
        upright.print(0, 1);
        Check.due("below", upright.label(0, 0), SheetMaker.BELOW);
        Check.due("above, at the same places", upright.shift(0, 10, 13), 0);
    }

    private static void roadsMakeErrata() {
        Check.sentence("and the roads that are there and were not, or were and are not, or have other points left "
            + "than then");
        SheetMaker maker = new SheetMaker();
        maker.sheet(1, 10, 10, 19, 19, NONE);
        maker.print(0, 1);
        RoadTests.addRoad(maker, 0, 12, 12, 18, 18);
        Check.due("a road that the scale does not show", maker.errata(0), 0);
        RoadTests.addRoad(maker, 1, 0, 0, 9, 19, 30, 30);
        Check.due("a road that has no point on the sheet", maker.errata(0), 0);
        maker.move(1, 1, 10, 19);
        Check.due("a point at the sheet's edge", maker.errata(0), 1);
        maker.print(0, 1);
        maker.move(1, 0, 0, 1);
        Check.due("a point off the sheet, of a road that is there", maker.errata(0), 1);
        maker.move(1, 0, 0, 0);
        Check.due("put right", maker.errata(0), 0);
        maker.move(1, 1, 20, 19);
        Check.due("a road that is not there any more", maker.errata(0), 1);
        maker.print(0, 1);
        Check.due("move off the sheet of a road that is not there", maker.move(1, 1, 20, 10), 0);
        maker.move(1, 1, 15, 15);
        Check.due("a point on the sheet that is not left", maker.left(1, 1), 5);
        Check.due("does not bring its road there", maker.errata(0), 0);
        RoadTests.addRoad(maker, 1, 15, 15, 0, 39);
        Check.due("another road keeps it: both are there", maker.errata(0), 2);
    }

    private static void samePointsAreNoErrata() {
        Check.sentence("points left are the same if they are at the same places in the same order");
        SheetMaker maker = new SheetMaker();
        maker.sheet(1, 0, 0, 39, 39, NONE);
        RoadTests.addRoad(maker, 1, 0, 0, 10, 10, 20, 0, 30, 0);
        maker.print(0, 1);
        Check.due("no point is flat", maker.left(0, 1), 15);
        maker.move(0, 2, 20, 1);
        Check.due("a point elsewhere", maker.errata(0), 1);
        maker.print(0, 1);
        SheetMaker flat = new SheetMaker();
        flat.sheet(1, 0, 0, 39, 39, NONE);
        RoadTests.addRoad(flat, 1, 0, 0, 10, 10, 15, 15, 20, 0);
        flat.print(0, 1);
        Check.due("point 1 is flat", flat.left(0, 1), 13);
        Check.due("the flat point moved along", flat.move(0, 1, 11, 11), 0);
        flat.move(0, 1, 5, 20);
        Check.due("the point is left now", flat.errata(0), 1);
        flat.move(0, 2, 16, 12);
        flat.move(0, 1, 15, 15);
        Check.due("another point is left", flat.left(0, 1), 11);
        Check.due("at the same place", flat.errata(0), 0);
        RoadTests.addRoad(flat, 3, 16, 12, 39, 39);
        Check.due("one more point is left, and a new road", flat.errata(0), 2);
        turnedRoads();
    }

    private static void turnedRoads() {
        Check.sentence("points left are the same if they are at the same places in the same order");
        SheetMaker maker = new SheetMaker();
        maker.sheet(0, 0, 0, 39, 39, NONE);
        RoadTests.addRoad(maker, 0, 0, 0, 20, 5, 30, 30);
        maker.print(0, 1);
        maker.move(0, 0, 1, 1);
        maker.move(0, 2, 0, 0);
        Check.due("the ends change places", maker.move(0, 0, 30, 30), 1);
        Check.due("the same places in another order", maker.errata(0), 1);
    }

    private static void errataAreCountedTogether() {
        Check.sentence("Promise 17: Returns how many errata a sheet has");
        SheetMaker maker = oneSheet();
        maker.print(0, 7);
        for (int n = 0; n < 10; n++) {
            maker.name(10, 3 * n, 4, 1);
        }
        for (int r = 0; r < 8; r++) {
            RoadTests.addRoad(maker, 1, 0, r, 5, r, 5, r + 1);
        }
        Check.due("each name and each road, once", maker.errata(0), 18);
        Check.due("they go with what is sold", maker.sell(0, 2), 18);
        maker.print(0, 1);
        maker.move(3, 0, 1, 3);
        maker.move(3, 1, 6, 3);
        maker.shift(9, 10, 28);
        Check.due("two points of one road, and a name", maker.errata(0), 2);
    }

    private static void everyPointOfEveryRoadIsPrinted() {
        Check.sentence("or have other points left than then");
        SheetMaker maker = oneSheet();
        for (int r = 0; r < 8; r++) {
            RoadTests.addRoad(maker, 0, 0, r, 1, r, 2, r, 3, r, 4, r, 5, r, 6, r, 7, r);
        }
        maker.print(0, 1);
        for (int r = 0; r < 8; r++) {
            for (int p = 0; p < 8; p++) {
                maker.move(r, p, p, r + 20);
                Check.due("road " + r + " has its point " + p + " elsewhere", maker.errata(0), 1);
                Check.due("and back again", maker.move(r, p, p, r), 0);
            }
        }
    }

    private static void sheetsAreOfTheirOwn() {
        SheetMaker maker = new SheetMaker();
        maker.sheet(0, 0, 0, 19, 39, NONE);
        maker.sheet(0, 20, 0, 39, 39, NONE);
        maker.print(0, 10);
        maker.print(1, 20);
        maker.name(5, 5, 2, 0);
        Check.due("stock of the one", maker.stock(0), 10);
        Check.due("stock of the other", maker.stock(1), 20);
        Check.due("errata of the one", maker.errata(0), 1);
        Check.due("errata of the other", maker.errata(1), 0);
        maker.print(0, 1);
        Check.due("the other's stock stands", maker.stock(1), 20);
        maker.shift(0, 25, 5);
        Check.due("from the one", maker.errata(0), 1);
        Check.due("to the other", maker.errata(1), 1);
        maker.sell(0, 1);
        Check.due("the other's stock stands still", maker.stock(1), 20);
    }
}
