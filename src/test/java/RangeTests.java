import java.util.function.IntUnaryOperator;

/**
 * The lines of the promises that tell an argument's range: every value of it is taken, and the ones beside it, far from
 * it, or of the same rest by 40, 256 or 65536 are not.
 */
final class RangeTests {
    private interface Making {
        SheetMaker make();
    }

    private interface Taking {
        int with(SheetMaker maker, int value);
    }

    private static final int NONE = SheetMaker.NONE;
    private static final int[] FAR = {Integer.MIN_VALUE, Integer.MIN_VALUE + 1, -65536, -65535, -256, -255, -41, -40,
        -39, -2, 80, 256, 257, 1600, 65536, 65537, 1 << 30, Integer.MAX_VALUE - 1, Integer.MAX_VALUE};
    private static final int LAST = 39;

    private RangeTests() {
    }

    public static void main(String[] args) {
        draftTakes();
        roadTakes();
        moveTakes();
        nameTakes();
        shiftTakes();
        pointsAndLeftTake();
        meetingsTake();
        sheetTakes();
        sheetTakesNoLessThanItsLeftAndLow();
        labelTakes();
        atTakes();
        printTakes();
        sellTakes();
        stockAndErrataTake();
        Check.end();
    }

    private static void range(String what, int least, int most, Class<? extends RuntimeException> kind, Making state,
            Taking call, IntUnaryOperator want) {
        Check.sentence("from " + least + " to " + most);
        for (int value = least; value <= most; value++) {
            int taken = value;
            SheetMaker maker = state.make();
            Check.due(what + " of " + value, Check.outcome(() -> call.with(maker, taken)), want.applyAsInt(value));
        }
        refused(what, least - 1, kind, state, call);
        refused(what, most + 1, kind, state, call);
        for (int value : FAR) {
            if (value < least || value > most) {
                refused(what, value, kind, state, call);
            }
        }
    }

    private static void refused(String what, int value, Class<? extends RuntimeException> kind, Making state,
            Taking call) {
        SheetMaker maker = state.make();
        Check.dueThrow(what + " of " + value, kind, () -> call.with(maker, value));
    }

    private static void coordinate(String what, Making state, Taking call, int want) {
        range(what, 0, LAST, Check.OUT_OF_RANGE, state, call, value -> want);
    }

    private static SheetMaker ofThreeRoads() {
        SheetMaker maker = new SheetMaker();
        RoadTests.addRoad(maker, 0, 20, 20, 21, 20);
        RoadTests.addRoad(maker, 1, 20, 20, 21, 20, 23, 21, 20, 20);
        RoadTests.addRoad(maker, 3, 1, 0, 2, 0, 1, 0, 2, 0, 1, 0, 2, 0, 1, 0, 2, 0);
        return maker;
    }

    private static SheetMaker ofThreeNames() {
        SheetMaker maker = new SheetMaker();
        maker.name(20, 20, 1, 0);
        maker.name(20, 10, 1, 0);
        maker.name(20, 0, 1, 0);
        return maker;
    }

    private static SheetMaker ofThreeSheets() {
        SheetMaker maker = ofThreeNames();
        for (int s = 0; s < 3; s++) {
            maker.sheet(0, 0, 0, LAST, LAST, NONE);
        }
        return maker;
    }

    private static SheetMaker ofFullStock() {
        SheetMaker maker = ofThreeSheets();
        for (int i = 0; i < 10; i++) {
            maker.print(0, 100);
        }
        return maker;
    }

    private static void draftTakes() {
        coordinate("draft's x", SheetMaker::new, (maker, x) -> maker.draft(x, 0), 1);
        coordinate("draft's y", SheetMaker::new, (maker, y) -> maker.draft(LAST, y), 1);
    }

    private static void roadTakes() {
        Making drafted = () -> {
            SheetMaker maker = new SheetMaker();
            maker.draft(0, 0);
            maker.draft(LAST, LAST);
            return maker;
        };
        range("road's rank", 0, 3, Check.OUT_OF_RANGE, drafted, SheetMaker::road, rank -> 0);
        for (int rank = 0; rank <= 3; rank++) {
            SheetMaker maker = drafted.make();
            maker.road(rank);
            for (int scale = 0; scale <= 3; scale++) {
                Check.due("a road of rank " + rank + " on " + scale, maker.points(0, scale), rank >= scale ? 2 : 0);
            }
        }
    }

    private static void moveTakes() {
        Making state = RangeTests::ofThreeRoads;
        range("move's road", 0, 2, Check.NO_SUCH, state, (maker, road) -> maker.move(road, 0, 9, 9), road -> 0);
        range("a point of two", 0, 1, Check.NO_SUCH, state, (maker, point) -> maker.move(0, point, 9, 9), p -> 0);
        range("a point of four", 0, 3, Check.NO_SUCH, state, (maker, point) -> maker.move(1, point, 9, 9), p -> 0);
        range("a point of eight", 0, 7, Check.NO_SUCH, state, (maker, point) -> maker.move(2, point, 9, 9), p -> 0);
        coordinate("move's x", state, (maker, x) -> maker.move(0, 0, x, 0), 0);
        coordinate("move's y", state, (maker, y) -> maker.move(0, 1, LAST, y), 0);
        range("move with no roads", 0, -1, Check.NO_SUCH, SheetMaker::new,
            (maker, road) -> maker.move(road, 0, 9, 9), road -> 0);
    }

    private static void nameTakes() {
        coordinate("name's x", SheetMaker::new, (maker, x) -> maker.name(x, 0, 8, 0), 0);
        coordinate("name's y", SheetMaker::new, (maker, y) -> maker.name(LAST, y, 1, 3), 0);
        range("name's length", 1, 8, Check.OUT_OF_RANGE, SheetMaker::new,
            (maker, length) -> maker.name(0, LAST, length, 0), length -> 0);
        range("name's rank", 0, 3, Check.OUT_OF_RANGE, SheetMaker::new,
            (maker, rank) -> maker.name(LAST, 0, 8, rank), rank -> 0);
    }

    private static void shiftTakes() {
        Making state = RangeTests::ofThreeNames;
        range("shift's name", 0, 2, Check.NO_SUCH, state, (maker, name) -> maker.shift(name, 0, 0), name -> 0);
        coordinate("shift's x", state, (maker, x) -> maker.shift(0, x, 0), 0);
        coordinate("shift's y", state, (maker, y) -> maker.shift(2, LAST, y), 0);
        range("shift with no names", 0, -1, Check.NO_SUCH, SheetMaker::new, (maker, n) -> maker.shift(n, 0, 0), n -> 0);
    }

    private static void pointsAndLeftTake() {
        Making state = RangeTests::ofThreeRoads;
        int[] sizes = {2, 4, 8};
        range("points' road", 0, 2, Check.NO_SUCH, state, (maker, road) -> maker.points(road, 0), road -> sizes[road]);
        range("left's road", 0, 2, Check.NO_SUCH, state, (maker, r) -> maker.left(r, 0), r -> (1 << sizes[r]) - 1);
        range("points' scale", 0, 3, Check.NO_SUCH, state, (maker, s) -> maker.points(0, s), s -> s == 0 ? 2 : 0);
        range("left's scale", 0, 3, Check.NO_SUCH, state, (maker, s) -> maker.left(2, s), s -> s == 0 ? 255 : 129);
        range("points with no roads", 0, -1, Check.NO_SUCH, SheetMaker::new, (maker, r) -> maker.points(r, 0), r -> 0);
        range("left with no roads", 0, -1, Check.NO_SUCH, SheetMaker::new, (maker, r) -> maker.left(r, 0), r -> 0);
    }

    private static void meetingsTake() {
        Making state = RangeTests::ofThreeRoads;
        IntUnaryOperator want = scale -> scale == 0 ? 1 : 0;
        range("meetings' scale", 0, 3, Check.NO_SUCH, state, SheetMaker::meetings, want);
        range("meetingsByPairs' scale", 0, 3, Check.NO_SUCH, state, SheetMaker::meetingsByPairs, want);
        range("meetings with no roads", 0, 3, Check.NO_SUCH, SheetMaker::new, SheetMaker::meetings, s -> 0);
        range("meetingsByPairs with no roads", 0, 3, Check.NO_SUCH, SheetMaker::new, SheetMaker::meetingsByPairs,
            scale -> 0);
    }

    private static void sheetTakes() {
        range("sheet's scale", 0, 3, Check.NO_SUCH, SheetMaker::new,
            (maker, scale) -> maker.sheet(scale, 0, 0, LAST, LAST, NONE), scale -> 0);
        coordinate("sheet's left", SheetMaker::new, (maker, left) -> maker.sheet(0, left, 0, LAST, LAST, NONE), 0);
        coordinate("sheet's low", SheetMaker::new, (maker, low) -> maker.sheet(3, 0, low, LAST, LAST, 0), 0);
        coordinate("sheet's right", SheetMaker::new, (maker, right) -> maker.sheet(0, 0, LAST, right, LAST, NONE), 0);
        coordinate("sheet's high", SheetMaker::new, (maker, high) -> maker.sheet(3, LAST, 0, LAST, high, LAST), 0);
        range("sheet's fold", NONE, LAST, Check.OUT_OF_RANGE, SheetMaker::new,
            (maker, fold) -> maker.sheet(0, 10, 10, 20, 20, fold), fold -> 0);
    }

    private static void sheetTakesNoLessThanItsLeftAndLow() {
        for (int least = 0; least <= LAST; least++) {
            int end = least;
            range("right of left " + least, least, LAST, Check.OUT_OF_RANGE, SheetMaker::new,
                (maker, right) -> maker.sheet(0, end, 0, right, LAST, NONE), right -> 0);
            range("high of low " + least, least, LAST, Check.OUT_OF_RANGE, SheetMaker::new,
                (maker, high) -> maker.sheet(0, 0, end, LAST, high, NONE), high -> 0);
        }
    }

    private static void labelTakes() {
        Making state = RangeTests::ofThreeSheets;
        range("label's sheet", 0, 2, Check.NO_SUCH, state, (maker, sheet) -> maker.label(sheet, 0), sheet -> 0);
        range("label's name", 0, 2, Check.NO_SUCH, state, (maker, name) -> maker.label(0, name), name -> 0);
        range("label with no sheets", 0, -1, Check.NO_SUCH, RangeTests::ofThreeNames,
            (maker, sheet) -> maker.label(sheet, 0), sheet -> 0);
    }

    private static void atTakes() {
        Making state = RangeTests::ofThreeSheets;
        range("at's sheet", 0, 2, Check.NO_SUCH, state, (maker, sheet) -> maker.at(sheet, 21, 10), sheet -> 1);
        range("at's x", 0, LAST, Check.OUT_OF_RANGE, state, (maker, x) -> maker.at(0, x, 0), x -> x == 21 ? 2 : NONE);
        range("at's y", 0, LAST, Check.OUT_OF_RANGE, state, (maker, y) -> maker.at(0, 21, y),
            y -> y % 10 == 0 && y < 30 ? 2 - y / 10 : NONE);
        range("at with no sheets", 0, -1, Check.NO_SUCH, SheetMaker::new, (maker, s) -> maker.at(s, 0, 0), s -> 0);
    }

    private static void printTakes() {
        Making state = RangeTests::ofThreeSheets;
        range("print's sheet", 0, 2, Check.NO_SUCH, state, (maker, sheet) -> maker.print(sheet, 7), sheet -> 7);
        range("print's many", 1, 100, Check.OUT_OF_RANGE, state, (maker, many) -> maker.print(0, many), many -> many);
        range("print with no sheets", 0, -1, Check.NO_SUCH, SheetMaker::new, (maker, s) -> maker.print(s, 1), s -> 0);
    }

    private static void sellTakes() {
        Making state = RangeTests::ofFullStock;
        range("sell's many", 1, 1000, Check.OUT_OF_RANGE, state, (maker, many) -> maker.sell(0, many), many -> 0);
        range("a sheet with a stock", 0, 2, Check.NO_SUCH, () -> {
            SheetMaker maker = ofThreeSheets();
            for (int s = 0; s < 3; s++) {
                maker.print(s, 1);
            }
            return maker;
        }, (maker, sheet) -> maker.sell(sheet, 1), sheet -> 0);
        range("sell with no sheets", 0, -1, Check.NO_SUCH, SheetMaker::new, (maker, s) -> maker.sell(s, 1), s -> 0);
        for (int many = 1; many <= 1000; many += 37) {
            SheetMaker maker = state.make();
            maker.sell(0, many);
            Check.due("stock after " + many + " were sold", maker.stock(0), 1000 - many);
        }
    }

    private static void stockAndErrataTake() {
        Making state = RangeTests::ofFullStock;
        range("stock's sheet", 0, 2, Check.NO_SUCH, state, SheetMaker::stock, sheet -> sheet == 0 ? 1000 : 0);
        range("errata's sheet", 0, 2, Check.NO_SUCH, state, SheetMaker::errata, sheet -> 0);
        range("stock with no sheets", 0, -1, Check.NO_SUCH, SheetMaker::new, SheetMaker::stock, s -> 0);
        range("errata with no sheets", 0, -1, Check.NO_SUCH, SheetMaker::new, SheetMaker::errata, s -> 0);
    }
}
