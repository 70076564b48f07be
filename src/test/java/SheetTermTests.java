/** The sentences under 'Sheets and labels' and 'Printing' that name a boundary: a test of its own for each of them. */
final class SheetTermTests {
    private static final int NONE = SheetMaker.NONE;
    private static final int RIGHT = SheetMaker.RIGHT;
    private static final int LEFT = SheetMaker.LEFT;
    private static final int ABOVE = SheetMaker.ABOVE;
    private static final int BELOW = SheetMaker.BELOW;
    private static final int LAST = 39;

    private SheetTermTests() {
    }

    public static void main(String[] args) {
        sheetsAreAtMostSix();
        namesOnTheEdgesAreOnTheSheet();
        labelsInEveryWindow();
        labelsBesideAnother();
        labelsDoNotGoRoundTheEdges();
        ranksFallAndNumbersRise();
        noneIfThereIsNoSuchSide();
        labelsAreThoseOfNow();
        pointsOnTheEdgesAreOnTheSheet();
        onlyPointsLeftBringARoad();
        stocksAreAtMost1000();
        errataThrowOldCopiesAway();
        soldOutSheetsKeepTheirErrata();
        errataAreNoneAheadOfPrinting();
        onlyPrintedSheetsCount();
        sidesThatTakeTheSamePlaces();
        otherOrNoneOrNewLabels();
        samePlacesInTheSameOrder();
        eachOnce();
        Check.end();
    }

    // ---- sheets and labels

    private static void sheetsAreAtMostSix() {
        Check.sentence("Sheets are numbered from 0, at most 6");
        SheetMaker maker = new SheetMaker();
        for (int sheet = 0; sheet < 6; sheet++) {
            int number = sheet;
            Check.dueThrow("sheet " + sheet + " ahead of its making", Check.NO_SUCH, () -> maker.stock(number));
            Check.due("the sheet's number", maker.sheet(3, 0, 0, LAST, LAST, NONE), sheet);
            Check.due("its stock", maker.stock(sheet), 0);
        }
        Check.dueThrow("a seventh sheet", Check.REFUSED, () -> maker.sheet(3, 0, 0, LAST, LAST, NONE));
        Check.dueThrow("the seventh sheet's stock", Check.NO_SUCH, () -> maker.stock(6));
    }

    private static void namesOnTheEdgesAreOnTheSheet() {
        Check.sentence("from a left x to a right one and from a low y to a high one, all included");
        for (int x = 9; x <= 16; x++) {
            for (int y = 19; y <= 24; y++) {
                SheetMaker maker = new SheetMaker();
                maker.sheet(0, 10, 20, 15, 23, NONE);
                maker.name(x, y, 1, 0);
                boolean on = x >= 10 && x <= 15 && y >= 20 && y <= 23;
                int want = on ? x < 15 ? RIGHT : LEFT : NONE;
                Check.due("label of a name at " + x + " " + y, maker.label(0, 0), want);
                Check.due("the place right of it", maker.at(0, x + 1, y), want == RIGHT ? 0 : NONE);
                Check.due("the place left of it", maker.at(0, x - 1, y), want == LEFT ? 0 : NONE);
            }
        }
        SheetMaker one = new SheetMaker();
        one.sheet(0, LAST, LAST, LAST, LAST, NONE);
        one.sheet(0, 38, LAST, LAST, LAST, NONE);
        one.name(LAST, LAST, 1, 0);
        Check.due("a sheet of one place has room for no label", one.label(0, 0), NONE);
        Check.due("a sheet of two places has", one.label(1, 0), LEFT);
    }

    private static void labelsInEveryWindow() {
        Check.sentence("of which all places are on the sheet, none has the x of the fold");
        for (int length = 1; length <= 8; length++) {
            for (int left = 20 - length - 1; left <= 20; left++) {
                for (int right = 20; right <= 20 + length + 1; right++) {
                    for (int rows = 0; rows < 4; rows++) {
                        labelsWithEveryFold(length, left, 20 - rows % 2, right, 20 + rows / 2);
                    }
                }
            }
        }
    }

    private static void labelsWithEveryFold(int length, int left, int low, int right, int high) {
        for (int fold = 20 - length - 2; fold <= 20 + length + 1; fold++) {
            int there = fold == 20 - length - 2 ? NONE : fold;
            SheetMaker maker = new SheetMaker();
            maker.name(20, 20, length, 0);
            maker.sheet(0, left, low, right, high, there);
            int want = NONE;
            if (fits(21, 20 + length, left, right, there)) {
                want = RIGHT;
            } else if (fits(20 - length, 19, left, right, there)) {
                want = LEFT;
            } else if (fits(20, 19 + length, left, right, there)) {
                want = high == 21 ? ABOVE : low == 19 ? BELOW : NONE;
            }
            String what = "length " + length + " on " + left + " " + low + " " + right + " " + high + ", fold " + there;
            Check.due(what, maker.label(0, 0), want);
        }
    }

    private static boolean fits(int from, int to, int left, int right, int fold) {
        return from >= left && to <= right && (fold < from || fold > to);
    }

    private static void labelsBesideAnother() {
        Check.sentence("none is taken by a label given so far");
        // The first name's label takes 21 to 24 in row 20.
        for (int length = 1; length <= 8; length++) {
            for (int x = 9; x <= 30; x++) {
                for (int y = 18; y <= 22; y++) {
                    SheetMaker maker = new SheetMaker();
                    maker.sheet(0, 0, 0, LAST, LAST, NONE);
                    maker.name(20, 20, 4, 3);
                    maker.name(x, y, length, 3);
                    boolean rightFree = y != 20 || x + 1 > 24 || x + length < 21;
                    boolean leftFree = y != 20 || x - 1 < 21 || x - length > 24;
                    boolean leftFits = x - length >= 0;
                    int want = rightFree ? RIGHT : leftFree && leftFits ? LEFT : ABOVE;
                    Check.due("length " + length + " at " + x + " " + y, maker.label(0, 1), want);
                    Check.due("the first name's first place", maker.at(0, 21, 20), 0);
                    Check.due("the first name's last place", maker.at(0, 24, 20), 0);
                }
            }
        }
    }

    private static void labelsDoNotGoRoundTheEdges() {
        Check.sentence("of which all places are on the sheet");
        for (int length = 1; length <= 8; length++) {
            SheetMaker maker = new SheetMaker();
            maker.sheet(0, 0, 0, LAST, LAST, NONE);
            maker.name(LAST - length, 10, length, 3);
            Check.due("up to the right edge", maker.label(0, 0), RIGHT);
            Check.due("its last place", maker.at(0, LAST, 10), 0);
            maker.shift(0, LAST - length + 1, 10);
            Check.due("one beyond the right edge", maker.label(0, 0), LEFT);
            Check.due("nothing in the next row", maker.at(0, 0, 11), NONE);
            Check.due("nothing at the row's begin", maker.at(0, 0, 10), NONE);
            maker.name(LAST, 10, 8, 3);
            maker.shift(0, length - 1, 20);
            maker.name(length - 1, 20, length, 2);
            Check.due("the right one is taken, the left one goes over the edge", maker.label(0, 2), ABOVE);
            maker.shift(0, length, 20);
            maker.shift(2, length, 20);
            Check.due("the right one is taken, the left one ends at the edge", maker.label(0, 2), LEFT);
            Check.due("its first place", maker.at(0, 0, 20), 2);
            Check.due("nothing in the row below", maker.at(0, LAST, 19), NONE);
        }
        SheetMaker corners = new SheetMaker();
        corners.sheet(0, 0, 0, 0, LAST, NONE);
        corners.name(0, LAST, 1, 0);
        corners.name(0, 0, 1, 0);
        Check.due("no row above the highest", corners.label(0, 0), BELOW);
        Check.due("the lowest one's is above", corners.label(0, 1), ABOVE);
        corners.shift(0, 0, 1);
        corners.shift(1, 0, 1);
        Check.due("two at one place: above", corners.label(0, 0), ABOVE);
        Check.due("and below, in the lowest row", corners.label(0, 1), BELOW);
        corners.shift(0, 0, 0);
        corners.shift(1, 0, 0);
        Check.due("no row below the lowest", corners.label(0, 1), NONE);
    }

    private static void ranksFallAndNumbersRise() {
        Check.sentence("are given labels by falling ranks, those of one rank by rising numbers");
        for (int one = 0; one <= 3; one++) {
            for (int other = 0; other <= 3; other++) {
                SheetMaker maker = new SheetMaker();
                maker.sheet(0, 0, 0, LAST, LAST, NONE);
                maker.name(20, 20, 3, one);
                maker.name(20, 20, 3, other);
                boolean firstGoesFirst = one >= other;
                Check.due("rank " + one + " beside " + other, maker.label(0, 0), firstGoesFirst ? RIGHT : LEFT);
                Check.due("rank " + other + " behind " + one, maker.label(0, 1), firstGoesFirst ? LEFT : RIGHT);
            }
        }
        SheetMaker ten = new SheetMaker();
        ten.sheet(0, 0, 0, LAST, LAST, NONE);
        for (int n = 0; n < 9; n++) {
            ten.name(20, 20, 3, n < 3 ? 2 : 0);
        }
        ten.name(20, 20, 3, 3);
        int[] sides = {LEFT, ABOVE, BELOW, NONE, NONE, NONE, NONE, NONE, NONE, RIGHT};
        for (int n = 0; n < 10; n++) {
            Check.due("name " + n + " of ten at one place", ten.label(0, n), sides[n]);
        }
    }

    private static void noneIfThereIsNoSuchSide() {
        Check.sentence("none, if there is no such one");
        SheetMaker maker = new SheetMaker();
        maker.sheet(0, 19, 20, 21, 20, NONE);
        maker.name(20, 20, 2, 3);
        Check.due("too long for either end of its row", maker.label(0, 0), NONE);
        for (int x = 19; x <= 21; x++) {
            Check.due("at " + x, maker.at(0, x, 20), NONE);
        }
        maker.name(19, 20, 2, 0);
        Check.due("a name with no label takes no place", maker.label(0, 1), RIGHT);
        Check.due("not even its own", maker.at(0, 20, 20), 1);
        maker.sheet(1, 19, 20, 21, 20, NONE);
        Check.due("a name that is not shown has none", maker.label(1, 1), NONE);
        maker.sheet(0, 0, 0, 18, LAST, NONE);
        Check.due("a name off the sheet has none, though there is room", maker.label(2, 1), NONE);
    }

    private static void labelsAreThoseOfNow() {
        Check.sentence("if it were printed now");
        SheetMaker maker = new SheetMaker();
        maker.sheet(0, 0, 0, 20, 20, NONE);
        maker.name(10, 10, 4, 0);
        maker.print(0, 1);
        maker.shift(0, 18, 10);
        Check.due("label after a shift", maker.label(0, 0), LEFT);
        Check.due("where it was printed", maker.at(0, 11, 10), NONE);
        Check.due("where it would be", maker.at(0, 14, 10), 0);
        Check.due("errata stand against the print", maker.errata(0), 1);
    }

    // ---- printing

    private static void pointsOnTheEdgesAreOnTheSheet() {
        Check.sentence("all roads that the scale shows of which some point that is left is on the sheet");
        for (int x = 9; x <= 16; x++) {
            for (int y = 19; y <= 24; y++) {
                SheetMaker maker = new SheetMaker();
                maker.sheet(0, 10, 20, 15, 23, NONE);
                maker.sheet(1, 10, 20, 15, 23, NONE);
                maker.print(0, 1);
                maker.print(1, 1);
                RoadTests.addRoad(maker, 0, x, y, LAST, y);
                RoadTests.addRoad(maker, 0, 0, y, x, y);
                int want = x >= 10 && x <= 15 && y >= 20 && y <= 23 ? 2 : 0;
                Check.due("roads with a point at " + x + " " + y, maker.errata(0), want);
                Check.due("on a scale that does not show them", maker.errata(1), 0);
            }
        }
    }

    private static void onlyPointsLeftBringARoad() {
        Check.sentence("of which some point that is left is on the sheet");
        SheetMaker maker = new SheetMaker();
        maker.sheet(0, 10, 0, 20, 9, NONE);
        maker.sheet(1, 10, 0, 20, 9, NONE);
        maker.print(0, 1);
        maker.print(1, 1);
        RoadTests.addRoad(maker, 3, 0, 0, 15, 0, 30, 0);
        Check.due("its point on the sheet is left on scale 0", maker.errata(0), 1);
        Check.due("and is not on scale 1", maker.errata(1), 0);
        RoadTests.addRoad(maker, 3, 15, 0, 15, 30);
        Check.due("two roads on scale 0", maker.errata(0), 2);
        Check.due("two roads on scale 1, where the new one keeps the old one's point", maker.errata(1), 2);
        Check.due("away goes the keeper, and the other road with it", maker.move(1, 0, 30, 30), 1);
        Check.due("none on scale 1", maker.errata(1), 0);
    }

    private static void stocksAreAtMost1000() {
        Check.sentence("if the stock would be above 1000");
        for (int many = 1; many <= 100; many++) {
            SheetMaker maker = new SheetMaker();
            maker.sheet(0, 0, 0, LAST, LAST, NONE);
            int last = many;
            for (int i = 0; i < 9; i++) {
                maker.print(0, 100);
            }
            if (many < 100) {
                maker.print(0, 100 - many);
            }
            Check.due("to 1000 by " + many, maker.print(0, many), 1000);
            Check.due("one is sold", maker.sell(0, 1), 0);
            Object want = many == 1 ? (Object) 1000 : Check.REFUSED.getName();
            Check.due("to 999 by " + many, Check.outcome(() -> maker.print(0, last)), want);
            Check.due("stock then", maker.stock(0), many == 1 ? 1000 : 999);
        }
    }

    private static void errataThrowOldCopiesAway() {
        Check.sentence("printing it anew while it has errata throws the old copies away");
        for (int stock = 100; stock <= 1000; stock += 100) {
            SheetMaker maker = new SheetMaker();
            maker.sheet(0, 0, 0, LAST, LAST, NONE);
            for (int i = 0; i < stock / 100; i++) {
                maker.print(0, 100);
            }
            maker.name(5, 5, 1, 0);
            Check.due("the old copies stand until then", maker.stock(0), stock);
            Check.due("printed anew", maker.print(0, 100), 100);
            Check.due("no errata then", maker.errata(0), 0);
            Check.due("printed once more", maker.print(0, 1), 101);
        }
        SheetMaker first = new SheetMaker();
        first.sheet(0, 0, 0, LAST, LAST, NONE);
        first.name(5, 5, 1, 0);
        Check.due("a first print", first.print(0, 3), 3);
        first.shift(0, 6, 5);
        Check.due("the erratum is taken back", first.shift(0, 5, 5), 0);
        Check.due("so the old copies stay", first.print(0, 4), 7);
    }

    private static void soldOutSheetsKeepTheirErrata() {
        Check.sentence("other than when it was printed last");
        SheetMaker maker = new SheetMaker();
        maker.sheet(0, 0, 0, LAST, LAST, NONE);
        maker.print(0, 5);
        Check.due("all are sold", maker.sell(0, 5), 0);
        maker.name(5, 5, 1, 0);
        Check.due("errata with no stock", maker.errata(0), 1);
        Check.due("a sold out sheet counts", maker.shift(0, 6, 5), 1);
        Check.dueThrow("one more", Check.REFUSED, () -> maker.sell(0, 1));
        Check.due("printed anew", maker.print(0, 1), 1);
        Check.due("nothing is another thing now", maker.errata(0), 0);
    }

    private static void errataAreNoneAheadOfPrinting() {
        Check.sentence("0 if it was not printed yet");
        SheetMaker maker = new SheetMaker();
        maker.name(5, 5, 1, 3);
        RoadTests.addRoad(maker, 3, 0, 0, 9, 0);
        maker.sheet(0, 0, 0, LAST, LAST, NONE);
        Check.due("a sheet with a name and a road", maker.errata(0), 0);
        maker.shift(0, 6, 5);
        maker.move(0, 0, 1, 0);
        Check.due("after corrections", maker.errata(0), 0);
        maker.name(9, 9, 1, 3);
        RoadTests.addRoad(maker, 3, 0, 9, 9, 9);
        Check.due("after additions", maker.errata(0), 0);
        Check.due("its first print", maker.print(0, 1), 1);
        Check.due("just printed", maker.errata(0), 0);
    }

    private static void onlyPrintedSheetsCount() {
        Check.sentence("how many sheets have errata then, of those that were printed");
        for (int printed = 0; printed <= 6; printed++) {
            SheetMaker maker = new SheetMaker();
            maker.name(5, 5, 1, 0);
            RoadTests.addRoad(maker, 0, 0, 0, 9, 0);
            for (int sheet = 0; sheet < 6; sheet++) {
                maker.sheet(0, 0, 0, LAST, LAST, NONE);
            }
            for (int i = 0; i < printed; i++) {
                maker.print(5 - i, 1);
            }
            Check.due("shift with " + printed + " printed", maker.shift(0, 6, 5), printed);
            Check.due("move with " + printed + " printed", maker.move(0, 0, 1, 0), printed);
            Check.due("the road alone", maker.shift(0, 5, 5), printed);
            Check.due("nothing", maker.move(0, 0, 0, 0), 0);
        }
    }

    /** On this sheet, folded behind the label's places, each side has one place of the name that gives it those. */
    private static void sidesThatTakeTheSamePlaces() {
        Check.sentence("Labels are the same if they take the same places");
        for (int length = 2; length <= 8; length++) {
            int[][] places = {{10, 20}, {11 + length, 20}, {11, 19}, {11, 21}};
            for (int from = RIGHT; from <= BELOW; from++) {
                for (int to = RIGHT; to <= BELOW; to++) {
                    SheetMaker maker = new SheetMaker();
                    maker.name(places[from][0], places[from][1], length, 0);
                    maker.sheet(0, 10, 19, 11 + length, 21, 11 + length);
                    maker.print(0, 1);
                    Check.due("label ahead", maker.label(0, 0), from);
                    String what = "length " + length + " from " + from + " to " + to;
                    Check.due(what, maker.shift(0, places[to][0], places[to][1]), 0);
                    Check.due("label then", maker.label(0, 0), to);
                    Check.due("no errata", maker.errata(0), 0);
                    Check.due("its copies stay", maker.print(0, 1), 2);
                    maker.shift(0, 10, 19);
                    Check.due("the same side, another row", maker.errata(0), 1);
                }
            }
        }
    }

    private static void otherOrNoneOrNewLabels() {
        Check.sentence("the names whose label is another one, or none, or there is one");
        int[][] places = {{5, 5}, {6, 5}, {5, 6}, {30, 30}, {31, 30}};
        for (int from = 0; from < places.length; from++) {
            for (int to = 0; to < places.length; to++) {
                SheetMaker maker = new SheetMaker();
                maker.sheet(0, 0, 0, 19, 19, NONE);
                maker.name(places[from][0], places[from][1], 3, 0);
                maker.print(0, 1);
                boolean same = from == to || from >= 3 && to >= 3;
                Check.due("from " + from + " to " + to, maker.shift(0, places[to][0], places[to][1]), same ? 0 : 1);
            }
        }
    }

    private static void samePlacesInTheSameOrder() {
        Check.sentence("points left are the same if they are at the same places in the same order");
        SheetMaker there = new SheetMaker();
        there.sheet(0, 0, 0, LAST, LAST, NONE);
        there.sheet(1, 0, 0, LAST, LAST, NONE);
        RoadTests.addRoad(there, 1, 5, 5, 5, 25, 25, 25, 25, 5);
        there.print(0, 1);
        there.print(1, 1);
        there.move(0, 0, 0, 0);
        there.move(0, 2, 5, 5);
        Check.due("the first and the third change places", there.move(0, 0, 25, 25), 2);
        Check.due("the same places in another order", there.errata(0), 1);
        there.move(0, 0, 0, 0);
        there.move(0, 2, 25, 25);
        Check.due("put right", there.move(0, 0, 5, 5), 0);
        SheetMaker fewer = new SheetMaker();
        fewer.sheet(1, 0, 0, LAST, LAST, NONE);
        RoadTests.addRoad(fewer, 3, 0, 0, 10, 0, 20, 0, 30, 0);
        fewer.print(0, 1);
        Check.due("points that are not left may lie elsewhere", fewer.move(0, 1, 15, 0), 0);
        RoadTests.addRoad(fewer, 3, 20, 0, 39, 39);
        Check.due("a new road keeps one more point of the old one", fewer.errata(0), 2);
        fewer.print(0, 1);
        Check.due("another point at the place that is kept", fewer.move(0, 2, 16, 0), 1);
        Check.due("one point less", fewer.left(0, 1), 0b1001);
        Check.due("the other number at that place", fewer.move(0, 1, 20, 0), 0);
        Check.due("by its number it is another one", fewer.left(0, 1), 0b1011);
    }

    private static void eachOnce() {
        Check.sentence("each once");
        SheetMaker maker = new SheetMaker();
        maker.sheet(0, 0, 0, LAST, LAST, NONE);
        for (int r = 0; r < 8; r++) {
            RoadTests.addRoad(maker, 0, 0, r, 1, r, 2, r, 3, r, 4, r, 5, r, 6, r, 7, r);
        }
        for (int n = 0; n < 10; n++) {
            maker.name(20, 3 * n, 4, 0);
        }
        maker.print(0, 9);
        for (int r = 0; r < 8; r++) {
            for (int p = 0; p < 8; p++) {
                maker.move(r, p, p, r + 10);
            }
            Check.due("all points of the roads up to " + r, maker.errata(0), r + 1);
        }
        for (int n = 0; n < 10; n++) {
            maker.shift(n, 21, 3 * n);
            maker.shift(n, 22, 3 * n);
            Check.due("twice each name up to " + n, maker.errata(0), 8 + n + 1);
        }
        Check.due("all of them go with what is sold", maker.sell(0, 9), 18);
    }
}
