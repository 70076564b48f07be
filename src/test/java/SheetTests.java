/** Promises 11 to 13: sheet, label and at. */
final class SheetTests {
    private static final int NONE = SheetMaker.NONE;
    private static final int RIGHT = SheetMaker.RIGHT;
    private static final int LEFT = SheetMaker.LEFT;
    private static final int ABOVE = SheetMaker.ABOVE;
    private static final int BELOW = SheetMaker.BELOW;

    private SheetTests() {
    }

    public static void main(String[] args) {
        sheetsAreNumbered();
        sheetsAreNotPrintedYet();
        sheetRefuses();
        sidesAreTriedInTheirOrder();
        labelsTakeTheirPlaces();
        edgesAreIncluded();
        foldsAreKeptFree();
        labelsNeverOverlap();
        ranksGoFirst();
        hiddenAndOffTheSheet();
        labelsDoNotGoRoundTheMap();
        labelsAndNamesAreAnswered();
        labelRefuses();
        atRefuses();
        Check.end();
    }

    private static void sheetsAreNumbered() {
        Check.sentence("Promise 11: Returns its number");
        SheetMaker maker = new SheetMaker();
        for (int s = 0; s < 6; s++) {
            Check.due("number of a sheet", maker.sheet(s % 4, s, 0, 39, 39, s - 1), s);
            Check.due("not printed yet", maker.stock(s), 0);
            Check.due("no errata yet", maker.errata(s), 0);
        }
        Check.sentence("Promise 11: Throws IllegalStateException if there are 6");
        Check.dueThrow("a seventh sheet", Check.REFUSED, () -> maker.sheet(0, 0, 0, 39, 39, NONE));
        Check.dueThrow("a seventh sheet, out of range", Check.OUT_OF_RANGE, () -> maker.sheet(0, 0, 0, 39, 40, NONE));
        Check.dueThrow("a seventh sheet of no scale", Check.NO_SUCH, () -> maker.sheet(4, 0, 0, 39, 40, NONE));
        Check.dueThrow("its number", Check.NO_SUCH, () -> maker.stock(6));
    }

    private static void sheetsAreNotPrintedYet() {
        Check.sentence("Promise 11: Adds a sheet; it is not printed yet");
        SheetMaker maker = oneName(10, 10, 3);
        RoadTests.addRoad(maker, 0, 0, 0, 9, 9);
        for (int s = 0; s < 6; s++) {
            int sheet = s;
            maker.sheet(0, 0, 0, 39, 39, NONE);
            Check.due("no stock", maker.stock(sheet), 0);
            Check.due("no errata", maker.errata(sheet), 0);
            Check.dueThrow("nothing to sell", Check.REFUSED, () -> maker.sell(sheet, 1));
            Check.due("a name that is shifted", maker.shift(0, 10, 11 + sheet), 0);
            Check.due("a point that is moved", maker.move(0, 0, 0, 1 + sheet), 0);
            Check.due("no errata of a sheet that was not printed", maker.errata(sheet), 0);
        }
    }

    private static void sheetRefuses() {
        Check.sentence("Promise 11: Throws IndexOutOfBoundsException if there is no such scale");
        SheetMaker maker = new SheetMaker();
        Check.dueThrow("scale -1, all else out of range", Check.NO_SUCH, () -> maker.sheet(-1, -1, -1, -1, -1, -2));
        Check.dueThrow("scale 4", Check.NO_SUCH, () -> maker.sheet(4, 0, 0, 0, 0, 0));
        Check.sentence("Promise 11: Throws IllegalArgumentException if left, low, right, high or fold is out of range");
        int most = Integer.MAX_VALUE;
        int[][] wrong = {{-1, 0, 5, 5, NONE}, {40, 0, 40, 5, NONE}, {40, 0, 39, 5, NONE}, {0, -1, 5, 5, NONE},
            {0, 40, 5, 40, NONE}, {5, 0, 4, 5, NONE}, {5, 0, 40, 5, NONE}, {0, 5, 5, 4, NONE}, {0, 5, 5, 40, NONE},
            {0, 0, 5, 5, -2}, {0, 0, 5, 5, 40}, {0, 0, most, 5, NONE}, {0, 0, 5, most, NONE}, {0, 0, 5, 5, most},
            {0, 0, -1, 5, NONE}, {0, 0, 5, -1, NONE}, {0, 0, 5, 5, Integer.MIN_VALUE}};
        for (int[] w : wrong) {
            Check.dueThrow("sheet(" + w[0] + ", " + w[1] + ", " + w[2] + ", " + w[3] + ", " + w[4] + ")",
                Check.OUT_OF_RANGE, () -> maker.sheet(0, w[0], w[1], w[2], w[3], w[4]));
        }
        Check.due("the least sheet", maker.sheet(0, 0, 0, 0, 0, 0), 0);
        Check.due("the last place", maker.sheet(3, 39, 39, 39, 39, 39), 1);
        Check.due("a fold beside the sheet", maker.sheet(0, 5, 5, 9, 9, 39), 2);
    }

    private static SheetMaker oneName(int x, int y, int length) {
        SheetMaker maker = new SheetMaker();
        maker.name(x, y, length, 0);
        return maker;
    }

    private static void dueOn(SheetMaker maker, int left, int low, int right, int high, int fold, int want) {
        int sheet = maker.sheet(0, left, low, right, high, fold);
        String what = "label on " + left + " " + low + " " + right + " " + high + " fold " + fold;
        Check.due(what, maker.label(sheet, 0), want);
    }

    private static void sidesAreTriedInTheirOrder() {
        Check.sentence("the first one of right, left, above, below of which all places are on the sheet");
        SheetMaker maker = oneName(10, 10, 3);
        dueOn(maker, 0, 0, 39, 39, NONE, RIGHT);
        dueOn(maker, 0, 0, 12, 39, NONE, LEFT);
        dueOn(maker, 8, 0, 12, 39, NONE, ABOVE);
        dueOn(maker, 8, 0, 12, 10, NONE, BELOW);
        dueOn(maker, 8, 10, 12, 10, NONE, NONE);
        dueOn(maker, 8, 0, 11, 39, NONE, NONE);
    }

    private static void dueTaken(SheetMaker maker, int sheet, int fromX, int toX, int y) {
        // A frame round the name alone: an object is used for 512 calls at most.
        for (int x = 6; x < 16; x++) {
            for (int row = 8; row < 13; row++) {
                boolean taken = row == y && x >= fromX && x <= toX;
                Check.due("at " + x + " " + row + " of sheet " + sheet, maker.at(sheet, x, row), taken ? 0 : NONE);
            }
        }
    }

    private static void labelsTakeTheirPlaces() {
        Check.sentence("Promise 13: Returns the name whose label takes a place on a sheet, if it were printed now");
        SheetMaker maker = oneName(10, 10, 3);
        maker.sheet(0, 0, 0, 39, 39, NONE);
        maker.sheet(0, 0, 0, 12, 39, NONE);
        maker.sheet(0, 8, 0, 12, 39, NONE);
        maker.sheet(0, 8, 0, 12, 10, NONE);
        maker.sheet(0, 8, 10, 12, 10, NONE);
        dueTaken(maker, 0, 11, 13, 10);
        dueTaken(maker, 1, 7, 9, 10);
        dueTaken(maker, 2, 10, 12, 11);
        dueTaken(maker, 3, 10, 12, 9);
        dueTaken(maker, 4, 1, 0, 0);
    }

    private static void edgesAreIncluded() {
        Check.sentence("from a left x to a right one and from a low y to a high one, all included");
        SheetMaker right = oneName(10, 10, 3);
        dueOn(right, 10, 10, 13, 10, NONE, RIGHT);
        dueOn(right, 10, 10, 12, 11, NONE, ABOVE);
        dueOn(right, 7, 10, 10, 10, NONE, LEFT);
        dueOn(right, 8, 10, 10, 10, NONE, NONE);
        dueOn(right, 10, 9, 12, 10, NONE, BELOW);
        dueOn(right, 10, 9, 11, 10, NONE, NONE);
        SheetMaker corner = oneName(39, 39, 8);
        dueOn(corner, 0, 0, 39, 39, NONE, LEFT);
        dueOn(corner, 31, 39, 39, 39, NONE, LEFT);
        dueOn(corner, 32, 38, 39, 39, NONE, NONE);
        SheetMaker short1 = oneName(39, 39, 1);
        dueOn(short1, 39, 0, 39, 39, NONE, BELOW);
        SheetMaker short2 = oneName(0, 0, 1);
        dueOn(short2, 0, 0, 0, 39, NONE, ABOVE);
        dueOn(short2, 0, 0, 1, 0, NONE, RIGHT);
        dueOn(short2, 0, 0, 0, 0, NONE, NONE);
    }

    private static void foldsAreKeptFree() {
        Check.sentence("none has the x of the fold");
        SheetMaker maker = oneName(10, 10, 3);
        dueOn(maker, 0, 0, 39, 39, 10, RIGHT);
        dueOn(maker, 0, 0, 39, 39, 11, LEFT);
        dueOn(maker, 0, 0, 39, 39, 12, LEFT);
        dueOn(maker, 0, 0, 39, 39, 13, LEFT);
        dueOn(maker, 0, 0, 39, 39, 14, RIGHT);
        dueOn(maker, 8, 0, 39, 39, 12, NONE);
        SheetMaker next = oneName(10, 10, 3);
        dueOn(next, 8, 0, 39, 39, 13, ABOVE);
        dueOn(next, 0, 0, 12, 39, 9, ABOVE);
        dueOn(next, 0, 0, 12, 39, 7, ABOVE);
        dueOn(next, 0, 0, 12, 39, 6, LEFT);
        dueOn(next, 0, 0, 12, 39, 10, LEFT);
        SheetMaker edge = oneName(0, 5, 2);
        dueOn(edge, 0, 0, 39, 39, 0, RIGHT);
        dueOn(edge, 0, 0, 39, 39, 2, ABOVE);
        dueOn(edge, 0, 0, 39, 39, 1, NONE);
    }

    private static void labelsNeverOverlap() {
        Check.sentence("and none is taken by a label given so far");
        SheetMaker maker = new SheetMaker();
        maker.sheet(0, 0, 0, 39, 39, NONE);
        for (int n = 0; n < 5; n++) {
            maker.name(20, 20, 4, 1);
        }
        int[] sides = {RIGHT, LEFT, ABOVE, BELOW, NONE};
        for (int n = 0; n < 5; n++) {
            Check.due("label of name " + n + " at one place", maker.label(0, n), sides[n]);
        }
        // One place in common is too much, none is fine; a name's own place may be taken.
        maker.name(24, 19, 1, 0);
        maker.name(23, 21, 1, 0);
        Check.due("right of the label below", maker.label(0, 5), RIGHT);
        Check.due("right of the label above", maker.label(0, 6), RIGHT);
        maker.name(22, 21, 2, 0);
        Check.due("its right is the label above, its left too", maker.label(0, 7), ABOVE);
        maker.name(24, 20, 2, 0);
        Check.due("at a label's last place", maker.label(0, 8), RIGHT);
        maker.name(14, 20, 2, 0);
        Check.due("its right would take another label's first place", maker.label(0, 9), LEFT);
        Check.due("at a place of a label", maker.at(0, 24, 20), 0);
    }

    private static void ranksGoFirst() {
        Check.sentence("by falling ranks, those of one rank by rising numbers");
        SheetMaker maker = new SheetMaker();
        maker.sheet(0, 0, 0, 39, 39, NONE);
        maker.name(20, 20, 4, 0);
        maker.name(20, 20, 4, 2);
        maker.name(20, 20, 4, 1);
        maker.name(20, 20, 4, 3);
        maker.name(20, 20, 4, 3);
        int[] sides = {NONE, ABOVE, BELOW, RIGHT, LEFT};
        for (int n = 0; n < 5; n++) {
            Check.due("label of name " + n + " by rank", maker.label(0, n), sides[n]);
        }
    }

    private static void hiddenAndOffTheSheet() {
        Check.sentence("On a sheet the names that its scale shows, and whose own place is on it, are given labels");
        SheetMaker maker = new SheetMaker();
        for (int scale = 0; scale <= 3; scale++) {
            maker.sheet(scale, 10, 10, 29, 29, NONE);
        }
        for (int rank = 0; rank <= 3; rank++) {
            maker.name(15, 15 + rank, 3, rank);
        }
        for (int scale = 0; scale <= 3; scale++) {
            for (int rank = 0; rank <= 3; rank++) {
                int want = rank >= scale ? RIGHT : NONE;
                Check.due("rank " + rank + " on scale " + scale, maker.label(scale, rank), want);
            }
        }
        int[][] off = {{9, 15}, {30, 15}, {15, 9}, {15, 30}};
        for (int[] place : off) {
            maker.shift(3, place[0], place[1]);
            Check.due("name at " + place[0] + " " + place[1], maker.label(0, 3), NONE);
        }
        int[][] on = {{10, 15}, {10, 10}, {26, 10}, {15, 29}};
        for (int[] place : on) {
            maker.shift(3, place[0], place[1]);
            Check.due("name at " + place[0] + " " + place[1], maker.label(0, 3), RIGHT);
        }
        maker.shift(3, 15, 15);
        Check.due("a name that is not shown takes no place", maker.label(3, 3), RIGHT);
        Check.due("a name that is shown makes way", maker.label(0, 0), LEFT);
    }

    private static void labelsDoNotGoRoundTheMap() {
        Check.sentence("of which all places are on the sheet");
        SheetMaker maker = new SheetMaker();
        maker.sheet(0, 0, 0, 39, 39, NONE);
        maker.name(37, 10, 2, 1);
        maker.name(0, 11, 4, 1);
        Check.due("at the right edge", maker.label(0, 0), RIGHT);
        Check.due("at the left edge, a row further", maker.label(0, 1), RIGHT);
        maker.name(38, 20, 8, 1);
        Check.due("too long for the right edge", maker.label(0, 2), LEFT);
        maker.name(3, 30, 8, 1);
        maker.name(3, 30, 8, 1);
        Check.due("too long for the left edge", maker.label(0, 4), ABOVE);
    }

    private static void labelsAndNamesAreAnswered() {
        SheetMaker maker = new SheetMaker();
        maker.sheet(0, 0, 0, 39, 39, NONE);
        for (int n = 0; n < 5; n++) {
            maker.name(20, 20, 1, 0);
        }
        Check.sentence("Promise 12: Returns RIGHT, LEFT, ABOVE or BELOW; NONE if it has none");
        int[] sides = {RIGHT, LEFT, ABOVE, BELOW, NONE};
        for (int n = 0; n < 5; n++) {
            Check.due("label of name " + n, maker.label(0, n), sides[n]);
        }
        Check.sentence("Promise 13: Returns the name; NONE if there is none");
        int[][] places = {{21, 20}, {19, 20}, {20, 21}, {20, 19}};
        for (int n = 0; n < 4; n++) {
            Check.due("at the label of name " + n, maker.at(0, places[n][0], places[n][1]), n);
        }
        Check.due("at the names' own place", maker.at(0, 20, 20), NONE);
    }

    private static void labelRefuses() {
        Check.sentence("Promise 12: Throws IndexOutOfBoundsException if there is no such sheet or name");
        SheetMaker maker = oneName(10, 10, 3);
        Check.dueThrow("label on no sheet", Check.NO_SUCH, () -> maker.label(0, 0));
        maker.sheet(0, 0, 0, 39, 39, NONE);
        int[] none = {-1, 1, Integer.MAX_VALUE, Integer.MIN_VALUE};
        for (int number : none) {
            Check.dueThrow("label on sheet " + number, Check.NO_SUCH, () -> maker.label(number, 0));
            Check.dueThrow("label of name " + number, Check.NO_SUCH, () -> maker.label(0, number));
        }
    }

    private static void atRefuses() {
        Check.sentence("Promise 13: Throws IndexOutOfBoundsException if there is no such sheet");
        SheetMaker maker = oneName(10, 10, 3);
        Check.dueThrow("at on no sheet", Check.NO_SUCH, () -> maker.at(0, 0, 0));
        maker.sheet(0, 0, 0, 39, 39, NONE);
        int[] none = {-1, 1, Integer.MAX_VALUE, Integer.MIN_VALUE};
        for (int number : none) {
            Check.dueThrow("at on sheet " + number, Check.NO_SUCH, () -> maker.at(number, 40, 40));
        }
        Check.sentence("Promise 13: Throws IllegalArgumentException if x or y is out of range");
        Check.dueThrow("at x -1", Check.OUT_OF_RANGE, () -> maker.at(0, -1, 0));
        Check.dueThrow("at x 40", Check.OUT_OF_RANGE, () -> maker.at(0, 40, 0));
        Check.dueThrow("at y -1", Check.OUT_OF_RANGE, () -> maker.at(0, 0, -1));
        Check.dueThrow("at y 40", Check.OUT_OF_RANGE, () -> maker.at(0, 0, 40));
        Check.due("the first place", maker.at(0, 0, 0), NONE);
        Check.due("the last place", maker.at(0, 39, 39), NONE);
    }
}
