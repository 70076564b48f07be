/** Promises 5 and 6: name and shift. */
final class NameTests {
    private NameTests() {
    }

    public static void main(String[] args) {
        namesAreNumbered();
        nameRefuses();
        shiftMovesThatNameAlone();
        shiftRefuses();
        shiftCountsTheSheetsWithErrata();
        Check.end();
    }

    private static void namesAreNumbered() {
        SheetMaker maker = new SheetMaker();
        maker.sheet(0, 0, 0, 39, 39, SheetMaker.NONE);
        Check.sentence("Promise 5: Returns its number");
        for (int n = 0; n < 10; n++) {
            Check.due("number of a name", maker.name(10, 3 * n, 8, n % 4), n);
        }
        Check.sentence("Promise 5: Adds a name");
        for (int n = 0; n < 10; n++) {
            Check.due("place of a name", maker.at(0, 11, 3 * n), n);
            Check.due("length of a name", maker.at(0, 18, 3 * n), n);
            Check.due("no longer than that", maker.at(0, 19, 3 * n), SheetMaker.NONE);
        }
        Check.sentence("Promise 5: Throws IllegalStateException if there are 10");
        Check.dueThrow("an eleventh name", Check.REFUSED, () -> maker.name(0, 0, 1, 0));
        Check.dueThrow("an eleventh name out of range", Check.OUT_OF_RANGE, () -> maker.name(40, 0, 1, 0));
        Check.dueThrow("its number", Check.NO_SUCH, () -> maker.shift(10, 0, 0));
    }

    private static void nameRefuses() {
        Check.sentence("Promise 5: Throws IllegalArgumentException if x, y, length or rank is out of range");
        SheetMaker maker = new SheetMaker();
        int[][] wrong = {{-1, 0, 1, 0}, {40, 0, 1, 0}, {0, -1, 1, 0}, {0, 40, 1, 0}, {0, 0, 0, 0}, {0, 0, 9, 0},
            {0, 0, -1, 0}, {0, 0, 1, -1}, {0, 0, 1, 4}, {Integer.MIN_VALUE, 0, 1, 0}, {0, Integer.MAX_VALUE, 1, 0},
            {0, 0, Integer.MAX_VALUE, 0}, {0, 0, Integer.MIN_VALUE, 0}, {0, 0, 1, Integer.MAX_VALUE}};
        for (int[] w : wrong) {
            Check.dueThrow("name(" + w[0] + ", " + w[1] + ", " + w[2] + ", " + w[3] + ")", Check.OUT_OF_RANGE,
                () -> maker.name(w[0], w[1], w[2], w[3]));
        }
        Check.due("the least of all", maker.name(0, 0, 1, 0), 0);
        Check.due("the most of all", maker.name(39, 39, 8, 3), 1);
    }

    private static void shiftMovesThatNameAlone() {
        Check.sentence("Promise 6: Moves a name");
        SheetMaker maker = new SheetMaker();
        maker.sheet(0, 0, 0, 39, 39, SheetMaker.NONE);
        maker.name(5, 5, 3, 1);
        maker.name(5, 20, 3, 1);
        Check.due("nothing printed", maker.shift(0, 30, 31), 0);
        Check.due("where it was", maker.at(0, 6, 5), SheetMaker.NONE);
        Check.due("where it is", maker.at(0, 31, 31), 0);
        Check.due("the other one", maker.at(0, 6, 20), 1);
        Check.due("two names at one place", maker.shift(1, 30, 31), 0);
        Check.due("the lower number has its label first", maker.label(0, 0), SheetMaker.RIGHT);
        Check.due("the other one's label", maker.label(0, 1), SheetMaker.LEFT);
    }

    private static void shiftRefuses() {
        Check.sentence("Promise 6: Throws IndexOutOfBoundsException if there is no such name");
        SheetMaker maker = new SheetMaker();
        Check.dueThrow("no name", Check.NO_SUCH, () -> maker.shift(0, 0, 0));
        maker.sheet(0, 0, 0, 39, 39, SheetMaker.NONE);
        maker.name(5, 5, 3, 1);
        Check.dueThrow("name 1", Check.NO_SUCH, () -> maker.shift(1, 0, 0));
        Check.dueThrow("name -1, out of range", Check.NO_SUCH, () -> maker.shift(-1, 40, 40));
        Check.dueThrow("the largest name", Check.NO_SUCH, () -> maker.shift(Integer.MAX_VALUE, 0, 0));
        Check.sentence("Promise 6: Throws IllegalArgumentException if x or y is out of range");
        Check.dueThrow("x -1", Check.OUT_OF_RANGE, () -> maker.shift(0, -1, 0));
        Check.dueThrow("x 40", Check.OUT_OF_RANGE, () -> maker.shift(0, 40, 0));
        Check.dueThrow("y -1", Check.OUT_OF_RANGE, () -> maker.shift(0, 0, -1));
        Check.dueThrow("y 40", Check.OUT_OF_RANGE, () -> maker.shift(0, 0, 40));
        Check.due("it stands where it stood", maker.at(0, 6, 5), 0);
    }

    private static void shiftCountsTheSheetsWithErrata() {
        Check.sentence("Promise 6: Returns how many sheets have errata then, of those that were printed");
        SheetMaker maker = new SheetMaker();
        maker.name(10, 10, 2, 2);
        for (int scale = 0; scale <= 3; scale++) {
            maker.sheet(scale, 0, 0, 19, 19, SheetMaker.NONE);
        }
        maker.print(0, 1);
        maker.print(1, 1);
        maker.print(3, 1);
        Check.due("scales 0 and 1 show it, and were printed", maker.shift(0, 11, 10), 2);
        Check.due("off all sheets", maker.shift(0, 30, 30), 2);
        Check.due("to where it was", maker.shift(0, 10, 10), 0);
        Check.due("its own place again", maker.shift(0, 10, 10), 0);
    }
}
