/** Calls of any method with arguments about its ranges, many of them wrong: the same ones for the same seed. */
final class AnyCalls {
    /** For each method the least and the most of each argument, one beyond the range at either end included. */
    private static final int[][] ENDS = {
        {0, 9, 0, 9}, {-1, 4}, {-1, 8, -1, 8, 0, 9, 0, 9}, {0, 9, 0, 9, 0, 9, -1, 4}, {-1, 10, 0, 9, 0, 9},
        {-1, 8, -1, 4}, {-1, 8, -1, 4}, {-1, 4}, {-1, 4}, {-1, 4, -1, 3, -1, 3, 4, 11, 4, 11, -2, 11}, {-1, 6, -1, 10},
        {-1, 6, 0, 11, 0, 11}, {-1, 6, 60, 101}, {-1, 6, 0, 150}, {-1, 6}, {-1, 6}};

    private long state;

    AnyCalls(int seed) {
        state = 0x2545F4914F6CDD1DL * (seed + 1);
    }

    private int below(int bound) {
        state = state * 6364136223846793005L + 1442695040888963407L;
        return (int) ((state >>> 33) % bound);
    }

    /** The method's number, and behind it the arguments. */
    int[] next() {
        int method = below(4) == 0 ? 0 : below(ENDS.length);
        int[] ends = ENDS[method];
        int[] call = new int[1 + ends.length / 2];
        call[0] = method;
        for (int i = 1; i < call.length; i++) {
            int least = ends[2 * i - 2];
            call[i] = below(40) == 0 ? 40 - 41 * below(2) : least + below(ends[2 * i - 1] - least + 1);
        }
        return call;
    }

    static int make(SheetMaker maker, int[] c) {
        return switch (c[0]) {
            case 0 -> maker.draft(c[1], c[2]);
            case 1 -> maker.road(c[1]);
            case 2 -> maker.move(c[1], c[2], c[3], c[4]);
            case 3 -> maker.name(c[1], c[2], c[3], c[4]);
            case 4 -> maker.shift(c[1], c[2], c[3]);
            case 5 -> maker.points(c[1], c[2]);
            case 6 -> maker.left(c[1], c[2]);
            case 7 -> maker.meetings(c[1]);
            case 8 -> maker.meetingsByPairs(c[1]);
            case 9 -> maker.sheet(c[1], c[2], c[3], c[4], c[5], c[6]);
            case 10 -> maker.label(c[1], c[2]);
            case 11 -> maker.at(c[1], c[2], c[3]);
            case 12 -> maker.print(c[1], c[2]);
            case 13 -> maker.sell(c[1], c[2]);
            case 14 -> maker.stock(c[1]);
            default -> maker.errata(c[1]);
        };
    }
}
