/** The sentences under 'Printing': a test of its own for each of them. */
final class PrintTermTests {
    private static final int NONE = SheetMaker.NONE;
    private static final int RIGHT = SheetMaker.RIGHT;
    private static final int BELOW = SheetMaker.BELOW;
    private static final int LAST = 39;

    private PrintTermTests() {
    }

    public static void main(String[] args) {
        sheetsArePrintedAsTheyAreThen();
        pointsAreThoseOfTheScale();
        pointsOnTheEdgesAreOnTheSheet();
        onlyPointsLeftBringARoad();
        stocksAreOfCopiesLikeThis();
        stocksAreAtMost1000();
        errataThrowOldCopiesAway();
        soldOutSheetsKeepTheirErrata();
        errataAreNoneAheadOfPrinting();
        onlyPrintedSheetsCount();
        sidesThatTakeTheSamePlaces();
        otherOrNoneOrNewLabels();
        roadsThatAreThereOrWere();
        samePlacesInTheSameOrder();
        eachOnce();
        Check.end();
    }

    private static void sheetsArePrintedAsTheyAreThen() {
        Check.sentence("A sheet is printed as it is then: with the labels, and with what its roads are");
        SheetMaker maker = new SheetMaker();
        maker.sheet(0, 0, 0, LAST, LAST, NONE);
        maker.name(0, 5, 2, 0);
        RoadTests.addRoad(maker, 0, 0, 9, LAST, 9);
        for (int x = 1; x <= 20; x++) {
            Check.due("a label that changed since", maker.shift(0, x, 5), x == 1 ? 0 : 1);
            Check.due("a road that changed since", maker.move(0, 0, x, 9), x == 1 ? 0 : 1);
            Check.due("errata ahead of print " + x, maker.errata(0), x == 1 ? 0 : 2);
            Check.due("copies of print " + x, maker.print(0, x), x);
            Check.due("errata behind print " + x, maker.errata(0), 0);
        }
    }

    private static void pointsAreThoseOfTheScale() {
        Check.sentence("the points, by its scale, of all roads that the scale shows");
        SheetMaker maker = new SheetMaker();
        // Point 1, with an amount of 20, is left on the scales 0 and 1; on a straight way it is left on 0 alone.
        RoadTests.addRoad(maker, 2, 0, 10, 10, 11, 20, 10);
        for (int scale = 0; scale <= 3; scale++) {
            maker.sheet(scale, 0, 0, LAST, LAST, NONE);
            maker.print(scale, 1);
        }
        Check.due("sheets that show point 1", maker.move(0, 1, 10, 10), 2);
        int[] errata = {1, 1, 0, 0};
        for (int scale = 0; scale <= 3; scale++) {
            Check.due("errata of the sheet of scale " + scale, maker.errata(scale), errata[scale]);
        }
        Check.due("sheets that show point 0", maker.move(0, 0, 1, 10), 3);
        Check.due("the scale that does not show the road", maker.errata(3), 0);
    }

    private static void pointsOnTheEdgesAreOnTheSheet() {
        Check.sentence("all roads that the scale shows of which some point that is left is on the sheet");
        for (int x = 9; x <= 16; x++) {
            for (int y = 19; y <= 24; y++) {
                SheetMaker maker = new SheetMaker();
                maker.sheet(0, 10, 20, 15, 23, NONE);
                maker.sheet(1, 10, 20, 15, 23, NONE);
                maker.print(0, 1);
                maker.print(1, 1);
                RoadTests.addRoad(maker, 0, x, y, LAST, y);
                RoadTests.addRoad(maker, 0, 0, y, x, y);
                int want = x >= 10 && x <= 15 && y >= 20 && y <= 23 ? 2 : 0;
                Check.due("roads with a point at " + x + " " + y, maker.errata(0), want);
                Check.due("on a scale that does not show them", maker.errata(1), 0);
            }
        }
    }

    private static void onlyPointsLeftBringARoad() {
        Check.sentence("of which some point that is left is on the sheet");
        SheetMaker maker = new SheetMaker();
        maker.sheet(0, 10, 0, 20, 9, NONE);
        maker.sheet(1, 10, 0, 20, 9, NONE);
        maker.print(0, 1);
        maker.print(1, 1);
        RoadTests.addRoad(maker, 3, 0, 0, 15, 0, 30, 0);
        Check.due("its point on the sheet is left on scale 0", maker.errata(0), 1);
        Check.due("and is not on scale 1", maker.errata(1), 0);
        RoadTests.addRoad(maker, 3, 15, 0, 15, 30);
        Check.due("two roads on scale 0", maker.errata(0), 2);
        Check.due("two roads on scale 1, where the new one keeps the old one's point", maker.errata(1), 2);
        Check.due("away goes the keeper, and the other road with it", maker.move(1, 0, 30, 30), 1);
        Check.due("none on scale 1", maker.errata(1), 0);
    }

    private static void stocksAreOfCopiesLikeThis() {
        Check.sentence("Its stock is that of copies printed like this");
        SheetMaker maker = new SheetMaker();
        maker.sheet(0, 0, 0, LAST, LAST, NONE);
        maker.name(5, 5, 2, 0);
        Check.due("a first print", maker.print(0, 5), 5);
        Check.due("a print like it", maker.print(0, 6), 11);
        maker.shift(0, 6, 5);
        Check.due("copies that have errata are the stock still", maker.stock(0), 11);
        Check.due("and are sold", maker.sell(0, 2), 1);
        Check.due("a print unlike it", maker.print(0, 4), 4);
        Check.due("none of the others are left", maker.stock(0), 4);
        Check.dueThrow("five of four", Check.REFUSED, () -> maker.sell(0, 5));
    }

    private static void stocksAreAtMost1000() {
        Check.sentence("Promise 14: Throws IllegalStateException if the stock would be above 1000");
        for (int many = 1; many <= 100; many++) {
            SheetMaker maker = new SheetMaker();
            maker.sheet(0, 0, 0, LAST, LAST, NONE);
            int last = many;
            for (int i = 0; i < 9; i++) {
                maker.print(0, 100);
            }
            if (many < 100) {
                maker.print(0, 100 - many);
            }
            Check.due("to 1000 by " + many, maker.print(0, many), 1000);
            Check.due("one is sold", maker.sell(0, 1), 0);
            Object want = many == 1 ? (Object) 1000 : Check.REFUSED.getName();
            Check.due("to 999 by " + many, Check.outcome(() -> maker.print(0, last)), want);
            Check.due("stock then", maker.stock(0), many == 1 ? 1000 : 999);
        }
    }

    private static void errataThrowOldCopiesAway() {
        Check.sentence("printing it anew while it has errata throws the old copies away");
        for (int stock = 100; stock <= 1000; stock += 100) {
            SheetMaker maker = new SheetMaker();
            maker.sheet(0, 0, 0, LAST, LAST, NONE);
            for (int i = 0; i < stock / 100; i++) {
                maker.print(0, 100);
            }
            maker.name(5, 5, 1, 0);
            Check.due("the old copies stand until then", maker.stock(0), stock);
            Check.due("printed anew", maker.print(0, 100), 100);
            Check.due("no errata then", maker.errata(0), 0);
            Check.due("printed once more", maker.print(0, 1), 101);
        }
        SheetMaker first = new SheetMaker();
        first.sheet(0, 0, 0, LAST, LAST, NONE);
        first.name(5, 5, 1, 0);
        Check.due("a first print", first.print(0, 3), 3);
        first.shift(0, 6, 5);
        Check.due("the erratum is taken back", first.shift(0, 5, 5), 0);
        Check.due("so the old copies stay", first.print(0, 4), 7);
    }

    private static void soldOutSheetsKeepTheirErrata() {
        Check.sentence("other than when it was printed last");
        SheetMaker maker = new SheetMaker();
        maker.sheet(0, 0, 0, LAST, LAST, NONE);
        maker.print(0, 5);
        Check.due("all are sold", maker.sell(0, 5), 0);
        maker.name(5, 5, 1, 0);
        Check.due("errata with no stock", maker.errata(0), 1);
        Check.due("a sold out sheet counts", maker.shift(0, 6, 5), 1);
        Check.dueThrow("one more", Check.REFUSED, () -> maker.sell(0, 1));
        Check.due("printed anew", maker.print(0, 1), 1);
        Check.due("nothing is another thing now", maker.errata(0), 0);
    }

    private static void errataAreNoneAheadOfPrinting() {
        Check.sentence("Promise 17: Returns how many; 0 if it was not printed yet");
        SheetMaker maker = new SheetMaker();
        maker.name(5, 5, 1, 3);
        RoadTests.addRoad(maker, 3, 0, 0, 9, 0);
        maker.sheet(0, 0, 0, LAST, LAST, NONE);
        Check.due("a sheet with a name and a road", maker.errata(0), 0);
        maker.shift(0, 6, 5);
        maker.move(0, 0, 1, 0);
        Check.due("after corrections", maker.errata(0), 0);
        maker.name(9, 9, 1, 3);
        RoadTests.addRoad(maker, 3, 0, 9, 9, 9);
        Check.due("after additions", maker.errata(0), 0);
        Check.due("its first print", maker.print(0, 1), 1);
        Check.due("just printed", maker.errata(0), 0);
    }

    private static void onlyPrintedSheetsCount() {
        Check.sentence("Promise 6: Returns how many sheets have errata then, of those that were printed");
        for (int printed = 0; printed <= 6; printed++) {
            SheetMaker maker = new SheetMaker();
            maker.name(5, 5, 1, 0);
            RoadTests.addRoad(maker, 0, 0, 0, 9, 0);
            for (int sheet = 0; sheet < 6; sheet++) {
                maker.sheet(0, 0, 0, LAST, LAST, NONE);
            }
            for (int i = 0; i < printed; i++) {
                maker.print(5 - i, 1);
            }
            Check.due("shift with " + printed + " printed", maker.shift(0, 6, 5), printed);
            Check.due("move with " + printed + " printed", maker.move(0, 0, 1, 0), printed);
            Check.due("the road alone", maker.shift(0, 5, 5), printed);
            Check.due("nothing", maker.move(0, 0, 0, 0), 0);
        }
    }

    /** On this sheet, folded behind the label's places, each side has one place of the name that gives it those. */
    private static void sidesThatTakeTheSamePlaces() {
        Check.sentence("Labels are the same if they take the same places");
        for (int length = 2; length <= 8; length++) {
            int[][] places = {{10, 20}, {11 + length, 20}, {11, 19}, {11, 21}};
            for (int from = RIGHT; from <= BELOW; from++) {
                for (int to = RIGHT; to <= BELOW; to++) {
                    SheetMaker maker = new SheetMaker();
                    maker.name(places[from][0], places[from][1], length, 0);
                    maker.sheet(0, 10, 19, 11 + length, 21, 11 + length);
                    maker.print(0, 1);
                    Check.due("label ahead", maker.label(0, 0), from);
                    String what = "length " + length + " from " + from + " to " + to;
                    Check.due(what, maker.shift(0, places[to][0], places[to][1]), 0);
                    Check.due("label then", maker.label(0, 0), to);
                    Check.due("no errata", maker.errata(0), 0);
                    Check.due("its copies stay", maker.print(0, 1), 2);
                    maker.shift(0, 10, 19);
                    Check.due("the same side, another row", maker.errata(0), 1);
                }
            }
        }
    }

    private static void otherOrNoneOrNewLabels() {
        Check.sentence("The errata of a sheet are the names whose label is another one, or none, or there is one, "
            + "other than when it was printed last");
        int[][] places = {{5, 5}, {6, 5}, {5, 6}, {30, 30}, {31, 30}};
        for (int from = 0; from < places.length; from++) {
            for (int to = 0; to < places.length; to++) {
                SheetMaker maker = new SheetMaker();
                maker.sheet(0, 0, 0, 19, 19, NONE);
                maker.name(places[from][0], places[from][1], 3, 0);
                maker.print(0, 1);
                boolean same = from == to || from >= 3 && to >= 3;
                Check.due("from " + from + " to " + to, maker.shift(0, places[to][0], places[to][1]), same ? 0 : 1);
            }
        }
    }

    /** Ways with both points on the sheet, with one, and with none: from each of them to each. */
    private static void roadsThatAreThereOrWere() {
        Check.sentence("and the roads that are there and were not, or were and are not, or have other points left than "
            + "then");
        int[][] ways = {{12, 5, 15, 9}, {12, 5, 15, 10}, {12, 5, 5, 9}, {12, 5, 5, 10}, {0, 5, 5, 9}, {0, 5, 5, 10}};
        for (int from = 0; from < ways.length; from++) {
            for (int to = 0; to < ways.length; to++) {
                SheetMaker maker = new SheetMaker();
                maker.sheet(0, 10, 0, 19, LAST, NONE);
                RoadTests.addRoad(maker, 0, ways[from]);
                maker.print(0, 1);
                maker.move(0, 0, ways[to][0], ways[to][1]);
                boolean same = from == to || from >= 4 && to >= 4;
                String what = "from way " + from + " to way " + to;
                Check.due(what, maker.move(0, 1, ways[to][2], ways[to][3]), same ? 0 : 1);
                Check.due(what + ", the errata", maker.errata(0), same ? 0 : 1);
            }
        }
    }

    private static void samePlacesInTheSameOrder() {
        Check.sentence("points left are the same if they are at the same places in the same order");
        SheetMaker there = new SheetMaker();
        there.sheet(0, 0, 0, LAST, LAST, NONE);
        there.sheet(1, 0, 0, LAST, LAST, NONE);
        RoadTests.addRoad(there, 1, 5, 5, 5, 25, 25, 25, 25, 5);
        there.print(0, 1);
        there.print(1, 1);
        there.move(0, 0, 0, 0);
        there.move(0, 2, 5, 5);
        Check.due("the first and the third change places", there.move(0, 0, 25, 25), 2);
        Check.due("the same places in another order", there.errata(0), 1);
        there.move(0, 0, 0, 0);
        there.move(0, 2, 25, 25);
        Check.due("put right", there.move(0, 0, 5, 5), 0);
        SheetMaker fewer = new SheetMaker();
        fewer.sheet(1, 0, 0, LAST, LAST, NONE);
        RoadTests.addRoad(fewer, 3, 0, 0, 10, 0, 20, 0, 30, 0);
        fewer.print(0, 1);
        Check.due("points that are not left may lie elsewhere", fewer.move(0, 1, 15, 0), 0);
        RoadTests.addRoad(fewer, 3, 20, 0, 39, 39);
        Check.due("a new road keeps one more point of the old one", fewer.errata(0), 2);
        fewer.print(0, 1);
        Check.due("another point at the place that is kept", fewer.move(0, 2, 16, 0), 1);
        Check.due("one point less", fewer.left(0, 1), 0b1001);
        Check.due("the other number at that place", fewer.move(0, 1, 20, 0), 0);
        Check.due("by its number it is another one", fewer.left(0, 1), 0b1011);
    }

    private static void eachOnce() {
        Check.sentence("each once");
        SheetMaker maker = new SheetMaker();
        maker.sheet(0, 0, 0, LAST, LAST, NONE);
        for (int r = 0; r < 8; r++) {
            RoadTests.addRoad(maker, 0, 0, r, 1, r, 2, r, 3, r, 4, r, 5, r, 6, r, 7, r);
        }
        for (int n = 0; n < 10; n++) {
            maker.name(20, 3 * n, 4, 0);
        }
        maker.print(0, 9);
        for (int r = 0; r < 8; r++) {
            for (int p = 0; p < 8; p++) {
                maker.move(r, p, p, r + 10);
            }
            Check.due("all points of the roads up to " + r, maker.errata(0), r + 1);
        }
        for (int n = 0; n < 10; n++) {
            maker.shift(n, 21, 3 * n);
            maker.shift(n, 22, 3 * n);
            Check.due("twice each name up to " + n, maker.errata(0), 8 + n + 1);
        }
        Check.due("all of them go with what is sold", maker.sell(0, 9), 18);
    }
}
