/** All promises: long runs of calls, most of them allowed and some not, each answered as the model answers it. */
final class ModelTests {
    private static final int RUNS = 600;
    private static final int CALLS = 512;
    private static final int[] ODD = {-1, -2, 40, 41, 4, 8, 9, 10, 100, 101, 1000, 1001, Integer.MAX_VALUE,
        Integer.MIN_VALUE};

    // A row of numbers of our own, so that every run of these tests makes the same calls.
    private long state;
    private int width;
    private int oddOneIn;
    private SheetMaker maker;
    private Model model;

    private ModelTests() {
    }

    public static void main(String[] args) {
        ModelTests tests = new ModelTests();
        for (int run = 0; run < RUNS && !Check.hasFailed(); run++) {
            tests.begin(run);
            for (int call = 0; call < CALLS && !Check.hasFailed(); call++) {
                tests.callOne("run " + run + " call " + call + ": ", call);
            }
        }
        Check.end();
    }

    /** Runs differ in how close together all things are, and in how often an argument is an odd one. */
    private void begin(int run) {
        state = 0x5DEECE66DL * (run + 1);
        width = 4 + below(run % 3 == 0 ? 37 : 12);
        oddOneIn = 5 + below(200);
        maker = new SheetMaker();
        model = new Model();
    }

    private int below(int bound) {
        state = state * 6364136223846793005L + 1442695040888963407L;
        return (int) ((state >>> 33) % bound);
    }

    private int any(int least, int most) {
        if (below(oddOneIn) == 0) {
            return ODD[below(ODD.length)];
        }
        return least + below(most - least + 1);
    }

    private int coordinate() {
        return any(0, width - 1);
    }

    private void callOne(String where, int call) {
        int kind = below(call < 120 ? 130 : 100);
        if (kind < 36) {
            askOne(where, kind);
        } else if (kind < 50) {
            int road = any(0, 7);
            int point = any(0, 7);
            int x = coordinate();
            int y = coordinate();
            compare(where + "move(" + road + ", " + point + ", " + x + ", " + y + ")",
                () -> maker.move(road, point, x, y), () -> model.move(road, point, x, y));
        } else if (kind < 60) {
            int name = any(0, 9);
            int x = coordinate();
            int y = coordinate();
            compare(where + "shift(" + name + ", " + x + ", " + y + ")",
                () -> maker.shift(name, x, y), () -> model.shift(name, x, y));
        } else if (kind < 75) {
            printOrSell(where, kind);
        } else {
            add(where, kind);
        }
    }

    private void askOne(String where, int kind) {
        int road = any(0, 7);
        int scale = any(0, 3);
        int sheet = any(0, 5);
        int name = any(0, 9);
        if (kind < 4) {
            compare(where + "points(" + road + ", " + scale + ")",
                () -> maker.points(road, scale), () -> model.points(road, scale));
        } else if (kind < 12) {
            compare(where + "left(" + road + ", " + scale + ")",
                () -> maker.left(road, scale), () -> model.left(road, scale));
        } else if (kind < 15) {
            compare(where + "meetings(" + scale + ")",
                () -> maker.meetings(scale), () -> model.meetings(scale));
        } else if (kind < 18) {
            compare(where + "meetingsByPairs(" + scale + ")",
                () -> maker.meetingsByPairs(scale), () -> model.meetingsByPairs(scale));
        } else if (kind < 24) {
            compare(where + "label(" + sheet + ", " + name + ")",
                () -> maker.label(sheet, name), () -> model.label(sheet, name));
        } else if (kind < 29) {
            int x = coordinate();
            int y = coordinate();
            compare(where + "at(" + sheet + ", " + x + ", " + y + ")",
                () -> maker.at(sheet, x, y), () -> model.at(sheet, x, y));
        } else if (kind < 31) {
            compare(where + "stock(" + sheet + ")", () -> maker.stock(sheet), () -> model.stock(sheet));
        } else {
            compare(where + "errata(" + sheet + ")", () -> maker.errata(sheet), () -> model.errata(sheet));
        }
    }

    private void printOrSell(String where, int kind) {
        int sheet = any(0, 5);
        if (kind < 70) {
            int many = any(1, 100);
            compare(where + "print(" + sheet + ", " + many + ")",
                () -> maker.print(sheet, many), () -> model.print(sheet, many));
        } else {
            int many = any(1, 150);
            compare(where + "sell(" + sheet + ", " + many + ")",
                () -> maker.sell(sheet, many), () -> model.sell(sheet, many));
        }
    }

    private void add(String where, int kind) {
        int x = coordinate();
        int y = coordinate();
        int rank = any(0, 3);
        if (kind < 82) {
            addSheet(where, x, y);
        } else if (kind < 88) {
            int length = any(1, 8);
            compare(where + "name(" + x + ", " + y + ", " + length + ", " + rank + ")",
                () -> maker.name(x, y, length, rank), () -> model.name(x, y, length, rank));
        } else if (kind < 124) {
            compare(where + "draft(" + x + ", " + y + ")", () -> maker.draft(x, y), () -> model.draft(x, y));
        } else {
            compare(where + "road(" + rank + ")", () -> maker.road(rank), () -> model.road(rank));
        }
    }

    private void addSheet(String where, int x, int y) {
        int scale = any(0, 3);
        int left = x / 2;
        int low = y / 2;
        int right = any(0, width - 1);
        int high = any(0, width - 1);
        int fold = any(-1, width - 1);
        compare(where + "sheet(" + scale + ", " + left + ", " + low + ", " + right + ", " + high + ", " + fold + ")",
            () -> maker.sheet(scale, left, low, right, high, fold),
            () -> model.sheet(scale, left, low, right, high, fold));
    }

    private static void compare(String what, Check.Call program, Check.Call told) {
        Check.due(what, Check.outcome(program), Check.outcome(told));
    }
}
