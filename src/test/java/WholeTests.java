import java.util.ArrayList;
import java.util.List;

/** The document's first sentence: what holds of the whole, whatever was put in. */
final class WholeTests {
    private static final int NONE = SheetMaker.NONE;
    private static final int RUNS = 400;
    private static final int WIDTH = 14;
    private static final int HEIGHT = 8;

    private record Line(int rank, List<Integer> places) {
    }

    // Numbers of our own making, so that every run of these tests makes the same calls: fewer than 512 on an object.
    private long state;
    private SheetMaker maker;
    private List<Line> roads;
    private List<int[]> sheets;
    private int[] lengths;

    private WholeTests() {
    }

    public static void main(String[] args) {
        WholeTests tests = new WholeTests();
        for (int run = 0; run < RUNS; run++) {
            tests.begin(run);
            tests.meetingPlacesAreKept(run);
            tests.labelsAreApartAndOffTheFold(run);
        }
        correctionsAreErrataWhereTheyShow();
        correctionsOffTheirScaleAreNone();
        Check.end();
    }

    private int below(int bound) {
        state = state * 6364136223846793005L + 1442695040888963407L;
        return (int) ((state >>> 33) % bound);
    }

    private void begin(int run) {
        state = 0x9E3779B97F4A7C15L * (run + 1);
        maker = new SheetMaker();
        roads = new ArrayList<>();
        sheets = new ArrayList<>();
        lengths = new int[10];
        for (int r = 0; r < 8; r++) {
            addRoad(2 + below(7));
        }
        for (int n = 0; n < lengths.length; n++) {
            lengths[n] = 1 + below(8);
            maker.name(below(WIDTH), below(HEIGHT), lengths[n], below(4));
        }
        for (int s = 0; s < 3; s++) {
            int[] sheet = {below(4), below(3), below(2), WIDTH - 1 - below(3), HEIGHT - 1 - below(2),
                below(2) == 0 ? NONE : below(WIDTH)};
            maker.sheet(sheet[0], sheet[1], sheet[2], sheet[3], sheet[4], sheet[5]);
            sheets.add(sheet);
        }
    }

    private void addRoad(int size) {
        List<Integer> places = new ArrayList<>();
        while (places.size() < size) {
            int place = below(WIDTH * HEIGHT);
            if (places.isEmpty() || places.get(places.size() - 1) != place) {
                places.add(place);
                maker.draft(place % WIDTH, place / WIDTH);
            }
        }
        int rank = below(4);
        maker.road(rank);
        roads.add(new Line(rank, places));
    }

    private void meetingPlacesAreKept(int run) {
        Check.sentence("a generaliser by scales that keeps the places where roads meet");
        for (int scale = 0; scale <= 3; scale++) {
            Check.due("meetings of run " + run, maker.meetings(scale), maker.meetingsByPairs(scale));
            for (int r = 0; r < roads.size(); r++) {
                int met = placesMet(r, scale);
                Check.due("points of road " + r + " of run " + run + " where it meets another one on " + scale,
                    maker.left(r, scale) & met, met);
            }
        }
    }

    private int placesMet(int road, int scale) {
        int met = 0;
        for (int r = 0; r < roads.size(); r++) {
            boolean bothShown = roads.get(road).rank() >= scale && roads.get(r).rank() >= scale;
            for (int p = 0; p < roads.get(road).places().size(); p++) {
                if (r != road && bothShown && roads.get(r).places().contains(roads.get(road).places().get(p))) {
                    met |= 1 << p;
                }
            }
        }
        return met;
    }

    /** Each label has all its places to itself, so that none lies over another one, and none is on the fold. */
    private void labelsAreApartAndOffTheFold(int run) {
        Check.sentence("labels that never overlap or lie in a fold");
        for (int s = 0; s < sheets.size(); s++) {
            int[] sheet = sheets.get(s);
            int[] taken = new int[lengths.length];
            for (int place = 0; place < WIDTH * HEIGHT; place++) {
                int x = place % WIDTH;
                int y = place / WIDTH;
                int name = maker.at(s, x, y);
                boolean mayBe = x >= sheet[1] && y >= sheet[2] && x <= sheet[3] && y <= sheet[4] && x != sheet[5];
                Check.due("a label off sheet " + s + " of run " + run + " or on its fold, at " + x + " " + y,
                    name != NONE && !mayBe, false);
                if (name != NONE) {
                    taken[name]++;
                }
            }
            for (int n = 0; n < lengths.length; n++) {
                int want = maker.label(s, n) == NONE ? 0 : lengths[n];
                Check.due("places of name " + n + " on sheet " + s + " of run " + run, taken[n], want);
            }
        }
    }

    /** Six sheets beside one another, a name and a road on each, and a road from the first one to the last. */
    private static SheetMaker sixSheets() {
        SheetMaker maker = new SheetMaker();
        for (int s = 0; s < 6; s++) {
            int left = 6 * s;
            maker.sheet(s % 3, left, 0, left + 5, 39, NONE);
            maker.name(left, 10, 2, 2);
            RoadTests.addRoad(maker, 2, left, 20, left + 5, 20);
            Check.due("copies", maker.print(s, 10 + s), 10 + s);
        }
        RoadTests.addRoad(maker, 2, 0, 30, 35, 30);
        maker.print(0, 10);
        maker.print(5, 15);
        return maker;
    }

    private static void errataAre(SheetMaker maker, String what, int... errata) {
        for (int s = 0; s < errata.length; s++) {
            Check.due("errata of sheet " + s + " by " + what, maker.errata(s), errata[s]);
        }
    }

    private static void correctionsAreErrataWhereTheyShow() {
        Check.sentence("corrections that make an errata list for each sheet that shows them");
        SheetMaker maker = sixSheets();
        for (int s = 0; s < 6; s++) {
            int[] errata = new int[6];
            errata[s] = 1;
            Check.due("sheets by a name on sheet " + s, maker.shift(s, 6 * s, 11), 1);
            errataAre(maker, "a name on sheet " + s, errata);
            Check.due("put right", maker.shift(s, 6 * s, 10), 0);
            Check.due("sheets by a road on sheet " + s, maker.move(s, 0, 6 * s, 21), 1);
            errataAre(maker, "a road on sheet " + s, errata);
            Check.due("put right", maker.move(s, 0, 6 * s, 20), 0);
        }
        Check.due("sheets by a road from the first to the last", maker.move(6, 0, 0, 31), 2);
        errataAre(maker, "a road from the first to the last", 1, 0, 0, 0, 0, 1);
        Check.due("sheets by a name that goes from the first to the third", maker.shift(0, 12, 15), 3);
        errataAre(maker, "a name that goes from the first to the third as well", 2, 0, 1, 0, 0, 1);
        int[] errata = {2, 0, 1, 0, 0, 1};
        for (int s = 0; s < 6; s++) {
            Check.due("errata that go with what is sold of sheet " + s, maker.sell(s, 10), errata[s]);
            Check.due("stock of sheet " + s, maker.stock(s), s);
        }
    }

    private static void correctionsOffTheirScaleAreNone() {
        Check.sentence("corrections that make an errata list for each sheet that shows them");
        SheetMaker maker = new SheetMaker();
        for (int rank = 0; rank <= 3; rank++) {
            maker.name(5, 5 * rank, 2, rank);
            RoadTests.addRoad(maker, rank, 0, 20 + rank, 9, 20 + rank);
        }
        for (int scale = 0; scale <= 3; scale++) {
            maker.sheet(scale, 0, 0, 39, 39, NONE);
            maker.print(scale, 1);
        }
        for (int rank = 0; rank <= 3; rank++) {
            Check.due("sheets that show a name of rank " + rank, maker.shift(rank, 6, 5 * rank), rank + 1);
            maker.shift(rank, 5, 5 * rank);
            Check.due("sheets that show a road of rank " + rank, maker.move(rank, 0, 1, 20 + rank), rank + 1);
            maker.move(rank, 0, 0, 20 + rank);
        }
        errataAre(maker, "what was put right", 0, 0, 0, 0);
    }
}
