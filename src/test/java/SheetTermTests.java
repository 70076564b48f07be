/** The sentences under 'Sheets and labels': a test of its own for each of them. */
final class SheetTermTests {
    private static final int NONE = SheetMaker.NONE;
    private static final int RIGHT = SheetMaker.RIGHT;
    private static final int LEFT = SheetMaker.LEFT;
    private static final int ABOVE = SheetMaker.ABOVE;
    private static final int BELOW = SheetMaker.BELOW;
    private static final int LAST = 39;

    private SheetTermTests() {
    }

    public static void main(String[] args) {
        sheetsAreAtMostSix();
        namesOnTheEdgesAreOnTheSheet();
        foldsAreAnXOrNone();
        labelsTakeTheirRows();
        theFirstSideThatIsFree();
        labelsInEveryWindow();
        labelsBesideAnother();
        labelsDoNotGoRoundTheEdges();
        ranksFallAndNumbersRise();
        noneIfThereIsNoSuchSide();
        labelsAreThoseOfNow();
        Check.end();
    }

    private static void sheetsAreAtMostSix() {
        Check.sentence("Sheets are numbered from 0, at most 6");
        SheetMaker maker = new SheetMaker();
        for (int sheet = 0; sheet < 6; sheet++) {
            int number = sheet;
            Check.dueThrow("sheet " + sheet + " ahead of its making", Check.NO_SUCH, () -> maker.stock(number));
            Check.due("the sheet's number", maker.sheet(3, 0, 0, LAST, LAST, NONE), sheet);
            Check.due("its stock", maker.stock(sheet), 0);
        }
        Check.dueThrow("a seventh sheet", Check.REFUSED, () -> maker.sheet(3, 0, 0, LAST, LAST, NONE));
        Check.dueThrow("the seventh sheet's stock", Check.NO_SUCH, () -> maker.stock(6));
    }

    private static void namesOnTheEdgesAreOnTheSheet() {
        Check.sentence("A sheet has a scale, the places from a left x to a right one and from a low y to a high one, "
            + "all included");
        for (int x = 9; x <= 16; x++) {
            for (int y = 19; y <= 24; y++) {
                SheetMaker maker = new SheetMaker();
                maker.sheet(0, 10, 20, 15, 23, NONE);
                maker.name(x, y, 1, 0);
                boolean on = x >= 10 && x <= 15 && y >= 20 && y <= 23;
                int want = on ? x < 15 ? RIGHT : LEFT : NONE;
                Check.due("label of a name at " + x + " " + y, maker.label(0, 0), want);
                Check.due("the place right of it", maker.at(0, x + 1, y), want == RIGHT ? 0 : NONE);
                Check.due("the place left of it", maker.at(0, x - 1, y), want == LEFT ? 0 : NONE);
            }
        }
        SheetMaker one = new SheetMaker();
        one.sheet(0, LAST, LAST, LAST, LAST, NONE);
        one.sheet(0, 38, LAST, LAST, LAST, NONE);
        one.name(LAST, LAST, 1, 0);
        Check.due("a sheet of one place has room for no label", one.label(0, 0), NONE);
        Check.due("a sheet of two places has", one.label(1, 0), LEFT);
    }

    private static void foldsAreAnXOrNone() {
        Check.sentence("and a fold, an x, or none");
        for (int fold = NONE; fold <= LAST; fold++) {
            for (int x = 0; x < LAST; x++) {
                SheetMaker maker = new SheetMaker();
                maker.sheet(0, 0, 0, LAST, LAST, fold);
                maker.name(x, 20, 1, 0);
                int folded = x > 0 ? LEFT : ABOVE;
                Check.due("label beside " + x + ", fold " + fold, maker.label(0, 0), fold == x + 1 ? folded : RIGHT);
            }
        }
    }

    private static void labelsTakeTheirRows() {
        Check.sentence("The label of a name takes as many places as its length, in a row: to the right of its place, "
            + "from x + 1 on; or to its left, up to x - 1; or above it, from x on, at y + 1; or below it, from x on, "
            + "at y - 1");
        for (int length = 1; length <= 8; length++) {
            // A fold keeps the right side free, and a sheet as wide as the label has room for neither right nor left.
            int left = 21 - length;
            int right = 19 + length;
            rowIs(RIGHT, length, 21, 20, 0, 0, LAST, LAST, NONE);
            rowIs(LEFT, length, 20 - length, 20, 0, 0, LAST, LAST, 21);
            rowIs(ABOVE, length, 20, 21, left, 0, right, LAST, NONE);
            rowIs(BELOW, length, 20, 19, left, 0, right, 20, NONE);
        }
    }

    private static void rowIs(int side, int length, int from, int y, int... sheet) {
        SheetMaker maker = new SheetMaker();
        maker.name(20, 20, length, 0);
        maker.sheet(0, sheet[0], sheet[1], sheet[2], sheet[3], sheet[4]);
        Check.due("side of a label of length " + length, maker.label(0, 0), side);
        for (int row = 18; row <= 22; row++) {
            for (int x = 10; x <= 30; x++) {
                boolean taken = row == y && x >= from && x < from + length;
                String what = "length " + length + " on side " + side + ": at " + x + " " + row;
                Check.due(what, maker.at(0, x, row), taken ? 0 : NONE);
            }
        }
    }

    /** Each set of sides is taken by labels of a higher rank, one place each. */
    private static void theFirstSideThatIsFree() {
        Check.sentence("the first one of right, left, above, below");
        int[][] takers = {{20, 20}, {18, 20}, {19, 21}, {19, 19}};
        for (int taken = 0; taken < 16; taken++) {
            SheetMaker maker = new SheetMaker();
            maker.sheet(0, 0, 0, LAST, LAST, NONE);
            maker.name(20, 20, 1, 0);
            int want = NONE;
            for (int side = BELOW; side >= RIGHT; side--) {
                if ((taken >> side & 1) != 0) {
                    maker.name(takers[side][0], takers[side][1], 1, 3);
                } else {
                    want = side;
                }
            }
            Check.due("label where the sides of set " + taken + " are taken", maker.label(0, 0), want);
        }
    }

    private static void labelsInEveryWindow() {
        Check.sentence("of which all places are on the sheet, none has the x of the fold");
        for (int length = 1; length <= 8; length++) {
            for (int left = 20 - length - 1; left <= 20; left++) {
                for (int right = 20; right <= 20 + length + 1; right++) {
                    for (int rows = 0; rows < 4; rows++) {
                        labelsWithEveryFold(length, left, 20 - rows % 2, right, 20 + rows / 2);
                    }
                }
            }
        }
    }

    private static void labelsWithEveryFold(int length, int left, int low, int right, int high) {
        for (int fold = 20 - length - 2; fold <= 20 + length + 1; fold++) {
            int there = fold == 20 - length - 2 ? NONE : fold;
            SheetMaker maker = new SheetMaker();
            maker.name(20, 20, length, 0);
            maker.sheet(0, left, low, right, high, there);
            int want = NONE;
            if (fits(21, 20 + length, left, right, there)) {
                want = RIGHT;
            } else if (fits(20 - length, 19, left, right, there)) {
                want = LEFT;
            } else if (fits(20, 19 + length, left, right, there)) {
                want = high == 21 ? ABOVE : low == 19 ? BELOW : NONE;
            }
            String what = "length " + length + " on " + left + " " + low + " " + right + " " + high + ", fold " + there;
            Check.due(what, maker.label(0, 0), want);
        }
    }

    private static boolean fits(int from, int to, int left, int right, int fold) {
        return from >= left && to <= right && (fold < from || fold > to);
    }

    private static void labelsBesideAnother() {
        Check.sentence("none is taken by a label given so far");
        // The first name's label takes 21 to 24 in row 20.
        for (int length = 1; length <= 8; length++) {
            for (int x = 9; x <= 30; x++) {
                for (int y = 18; y <= 22; y++) {
                    SheetMaker maker = new SheetMaker();
                    maker.sheet(0, 0, 0, LAST, LAST, NONE);
                    maker.name(20, 20, 4, 3);
                    maker.name(x, y, length, 3);
                    boolean rightFree = y != 20 || x + 1 > 24 || x + length < 21;
                    boolean leftFree = y != 20 || x - 1 < 21 || x - length > 24;
                    boolean leftFits = x - length >= 0;
                    int want = rightFree ? RIGHT : leftFree && leftFits ? LEFT : ABOVE;
                    Check.due("length " + length + " at " + x + " " + y, maker.label(0, 1), want);
                    Check.due("the first name's first place", maker.at(0, 21, 20), 0);
                    Check.due("the first name's last place", maker.at(0, 24, 20), 0);
                }
            }
        }
    }

    private static void labelsDoNotGoRoundTheEdges() {
        Check.sentence("of which all places are on the sheet");
        for (int length = 1; length <= 8; length++) {
            SheetMaker maker = new SheetMaker();
            maker.sheet(0, 0, 0, LAST, LAST, NONE);
            maker.name(LAST - length, 10, length, 3);
            Check.due("up to the right edge", maker.label(0, 0), RIGHT);
            Check.due("its last place", maker.at(0, LAST, 10), 0);
            maker.shift(0, LAST - length + 1, 10);
            Check.due("one beyond the right edge", maker.label(0, 0), LEFT);
            Check.due("nothing in the next row", maker.at(0, 0, 11), NONE);
            Check.due("nothing at the row's begin", maker.at(0, 0, 10), NONE);
            maker.name(LAST, 10, 8, 3);
            maker.shift(0, length - 1, 20);
            maker.name(length - 1, 20, length, 2);
            Check.due("the right one is taken, the left one goes over the edge", maker.label(0, 2), ABOVE);
            maker.shift(0, length, 20);
            maker.shift(2, length, 20);
            Check.due("the right one is taken, the left one ends at the edge", maker.label(0, 2), LEFT);
            Check.due("its first place", maker.at(0, 0, 20), 2);
            Check.due("nothing in the row below", maker.at(0, LAST, 19), NONE);
        }
        SheetMaker corners = new SheetMaker();
        corners.sheet(0, 0, 0, 0, LAST, NONE);
        corners.name(0, LAST, 1, 0);
        corners.name(0, 0, 1, 0);
        Check.due("no row above the highest", corners.label(0, 0), BELOW);
        Check.due("the lowest one's is above", corners.label(0, 1), ABOVE);
        corners.shift(0, 0, 1);
        corners.shift(1, 0, 1);
        Check.due("two at one place: above", corners.label(0, 0), ABOVE);
        Check.due("and below, in the lowest row", corners.label(0, 1), BELOW);
        corners.shift(0, 0, 0);
        corners.shift(1, 0, 0);
        Check.due("no row below the lowest", corners.label(0, 1), NONE);
    }

    private static void ranksFallAndNumbersRise() {
        Check.sentence("are given labels by falling ranks, those of one rank by rising numbers");
        for (int one = 0; one <= 3; one++) {
            for (int other = 0; other <= 3; other++) {
                SheetMaker maker = new SheetMaker();
                maker.sheet(0, 0, 0, LAST, LAST, NONE);
                maker.name(20, 20, 3, one);
                maker.name(20, 20, 3, other);
                boolean firstGoesFirst = one >= other;
                Check.due("rank " + one + " beside " + other, maker.label(0, 0), firstGoesFirst ? RIGHT : LEFT);
                Check.due("rank " + other + " behind " + one, maker.label(0, 1), firstGoesFirst ? LEFT : RIGHT);
            }
        }
        SheetMaker ten = new SheetMaker();
        ten.sheet(0, 0, 0, LAST, LAST, NONE);
        for (int n = 0; n < 9; n++) {
            ten.name(20, 20, 3, n < 3 ? 2 : 0);
        }
        ten.name(20, 20, 3, 3);
        int[] sides = {LEFT, ABOVE, BELOW, NONE, NONE, NONE, NONE, NONE, NONE, RIGHT};
        for (int n = 0; n < 10; n++) {
            Check.due("name " + n + " of ten at one place", ten.label(0, n), sides[n]);
        }
    }

    private static void noneIfThereIsNoSuchSide() {
        Check.sentence("none, if there is no such one");
        SheetMaker maker = new SheetMaker();
        maker.sheet(0, 19, 20, 21, 20, NONE);
        maker.name(20, 20, 2, 3);
        Check.due("too long for either end of its row", maker.label(0, 0), NONE);
        for (int x = 19; x <= 21; x++) {
            Check.due("at " + x, maker.at(0, x, 20), NONE);
        }
        maker.name(19, 20, 2, 0);
        Check.due("a name with no label takes no place", maker.label(0, 1), RIGHT);
        Check.due("not even its own", maker.at(0, 20, 20), 1);
        maker.sheet(1, 19, 20, 21, 20, NONE);
        Check.due("a name that is not shown has none", maker.label(1, 1), NONE);
        maker.sheet(0, 0, 0, 18, LAST, NONE);
        Check.due("a name off the sheet has none, though there is room", maker.label(2, 1), NONE);
    }

    private static void labelsAreThoseOfNow() {
        Check.sentence("Promise 12: Returns the label that a name would have on a sheet if it were printed now");
        SheetMaker maker = new SheetMaker();
        maker.sheet(0, 0, 0, 20, 20, NONE);
        maker.name(10, 10, 4, 0);
        maker.print(0, 1);
        maker.shift(0, 18, 10);
        Check.due("label after a shift", maker.label(0, 0), LEFT);
        Check.due("where it was printed", maker.at(0, 11, 10), NONE);
        Check.due("where it would be", maker.at(0, 14, 10), 0);
        Check.due("errata stand against the print", maker.errata(0), 1);
    }
}
