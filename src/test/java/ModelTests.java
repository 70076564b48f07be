/** All promises: long runs of calls, most of them allowed and some not, each answered as the model answers it. */
final class ModelTests {
    private static final int RUNS = 800;
    private static final int CALLS = 512;
    private static final int[] ODD = {-1, -2, 40, 41, 4, 8, 9, 10, 100, 101, 1000, 1001, Integer.MAX_VALUE,
        Integer.MIN_VALUE};

    // Numbers of our own making, so that every run of these tests makes the same calls.
    private long state;
    private int run;
    private int calls;
    private int width;
    private int oddOneIn;
    private int correctionsInHundred;
    private SheetMaker maker;
    private Model model;

    private ModelTests() {
    }

    public static void main(String[] args) {
        ModelTests tests = new ModelTests();
        for (int run = 0; run < RUNS && !Check.hasFailed(); run++) {
            tests.begin(run);
            tests.addMuch();
            while (tests.calls < CALLS && !Check.hasFailed()) {
                tests.callOne();
            }
        }
        Check.end();
    }

    /** Runs differ in how close together all things are, how often an argument is odd, and how much is corrected. */
    private void begin(int number) {
        run = number;
        calls = 0;
        state = 0x5DEECE66DL * (number + 1);
        width = number % 3 == 0 ? 40 : 4 + below(20);
        oddOneIn = 6 + below(300);
        correctionsInHundred = below(5) == 0 ? 0 : below(50);
        maker = new SheetMaker();
        model = new Model();
    }

    private int below(int bound) {
        state = state * 6364136223846793005L + 1442695040888963407L;
        return (int) ((state >>> 33) % bound);
    }

    private int any(int least, int most) {
        return below(oddOneIn) == 0 ? ODD[below(ODD.length)] : least + below(most - least + 1);
    }

    private int coordinate() {
        return any(0, width - 1);
    }

    private void addMuch() {
        int roads = below(10);
        for (int r = 0; r < roads; r++) {
            int points = 1 + below(9);
            for (int p = 0; p < points; p++) {
                draft();
            }
            road();
        }
        int names = below(12);
        for (int n = 0; n < names; n++) {
            name();
        }
        int sheets = 1 + below(7);
        for (int s = 0; s < sheets; s++) {
            sheet();
        }
    }

    private void callOne() {
        int hundred = below(100);
        if (hundred < correctionsInHundred) {
            correctOne();
        } else if (hundred < 60) {
            askOne();
        } else if (hundred < 95) {
            printOrSell();
        } else {
            addOne();
        }
    }

    private void addOne() {
        switch (below(5)) {
            case 0 -> name();
            case 1 -> sheet();
            case 2 -> road();
            default -> draft();
        }
    }

    private void draft() {
        int x = coordinate();
        int y = coordinate();
        compare("draft(" + x + ", " + y + ")", () -> maker.draft(x, y), () -> model.draft(x, y));
    }

    private void road() {
        int rank = any(0, 3);
        compare("road(" + rank + ")", () -> maker.road(rank), () -> model.road(rank));
    }

    private void name() {
        int x = coordinate();
        int y = coordinate();
        int length = any(1, 8);
        int rank = any(0, 3);
        compare("name(" + x + ", " + y + ", " + length + ", " + rank + ")",
            () -> maker.name(x, y, length, rank), () -> model.name(x, y, length, rank));
    }

    private void sheet() {
        int scale = any(0, 3);
        int left = any(0, width / 4);
        int low = any(0, width / 4);
        int right = any(width / 3, width - 1);
        int high = any(width / 3, width - 1);
        int fold = below(2) == 0 ? SheetMaker.NONE : coordinate();
        compare("sheet(" + scale + ", " + left + ", " + low + ", " + right + ", " + high + ", " + fold + ")",
            () -> maker.sheet(scale, left, low, right, high, fold),
            () -> model.sheet(scale, left, low, right, high, fold));
    }

    private void correctOne() {
        int x = coordinate();
        int y = coordinate();
        if (below(2) == 0) {
            int road = any(0, 7);
            int point = any(0, 7);
            compare("move(" + road + ", " + point + ", " + x + ", " + y + ")",
                () -> maker.move(road, point, x, y), () -> model.move(road, point, x, y));
        } else {
            int name = any(0, 9);
            compare("shift(" + name + ", " + x + ", " + y + ")",
                () -> maker.shift(name, x, y), () -> model.shift(name, x, y));
        }
    }

    private void printOrSell() {
        int sheet = any(0, 5);
        if (below(3) > 0) {
            int many = any(1, 100);
            compare("print(" + sheet + ", " + many + ")",
                () -> maker.print(sheet, many), () -> model.print(sheet, many));
        } else {
            int many = any(1, 100);
            compare("sell(" + sheet + ", " + many + ")",
                () -> maker.sell(sheet, many), () -> model.sell(sheet, many));
        }
    }

    private void askOne() {
        int road = any(0, 7);
        int scale = any(0, 3);
        switch (below(8)) {
            case 0 -> compare("points(" + road + ", " + scale + ")",
                () -> maker.points(road, scale), () -> model.points(road, scale));
            case 1, 2 -> compare("left(" + road + ", " + scale + ")",
                () -> maker.left(road, scale), () -> model.left(road, scale));
            case 3 -> compare("meetings(" + scale + ")", () -> maker.meetings(scale), () -> model.meetings(scale));
            case 4 -> compare("meetingsByPairs(" + scale + ")",
                () -> maker.meetingsByPairs(scale), () -> model.meetingsByPairs(scale));
            default -> askSheet();
        }
    }

    private void askSheet() {
        int sheet = any(0, 5);
        int name = any(0, 9);
        int x = coordinate();
        int y = coordinate();
        switch (below(5)) {
            case 0, 1 -> compare("label(" + sheet + ", " + name + ")",
                () -> maker.label(sheet, name), () -> model.label(sheet, name));
            case 2 -> compare("at(" + sheet + ", " + x + ", " + y + ")",
                () -> maker.at(sheet, x, y), () -> model.at(sheet, x, y));
            case 3 -> compare("stock(" + sheet + ")", () -> maker.stock(sheet), () -> model.stock(sheet));
            default -> compare("errata(" + sheet + ")", () -> maker.errata(sheet), () -> model.errata(sheet));
        }
    }

    private void compare(String what, Check.Call program, Check.Call told) {
        String where = "run " + run + " call " + calls + ": ";
        calls++;
        Check.due(where + what, Check.outcome(program), Check.outcome(told));
    }
}
