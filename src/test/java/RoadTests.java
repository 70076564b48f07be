/** Promises 1 to 4: a new object, draft, road and move. */
final class RoadTests {
    private RoadTests() {
    }

    public static void main(String[] args) {
        aNewObjectIsEmpty();
        draftAddsAPoint();
        draftCountsItsPoints();
        draftRefuses();
        roadTakesTheDraft();
        roadsAreNumbered();
        roadRefuses();
        moveMovesThatPointAlone();
        moveRefuses();
        moveTellsByItsFirstLine();
        moveCountsTheSheetsWithErrata();
        Check.end();
    }

    static int addRoad(SheetMaker maker, int rank, int... places) {
        for (int i = 0; i < places.length; i += 2) {
            maker.draft(places[i], places[i + 1]);
        }
        return maker.road(rank);
    }

    private static void aNewObjectIsEmpty() {
        Check.sentence("Promise 1: No roads, names and sheets, an empty draft");
        SheetMaker maker = new SheetMaker();
        Check.dueThrow("a new object's road", Check.NO_SUCH, () -> maker.points(0, 0));
        Check.dueThrow("a new object's name", Check.NO_SUCH, () -> maker.shift(0, 0, 0));
        Check.dueThrow("a new object's sheet", Check.NO_SUCH, () -> maker.stock(0));
        Check.dueThrow("a new object's draft as a road", Check.REFUSED, () -> maker.road(0));
        for (int scale = 0; scale <= 3; scale++) {
            Check.due("a new object's meetings", maker.meetings(scale), 0);
            Check.due("a new object's meetings by pairs", maker.meetingsByPairs(scale), 0);
        }
        Check.due("the first point", maker.draft(0, 0), 1);
        Check.due("the first name", maker.name(0, 0, 1, 0), 0);
        Check.due("the first sheet", maker.sheet(0, 0, 0, 39, 39, SheetMaker.NONE), 0);
        SheetMaker other = new SheetMaker();
        Check.due("the first point of another object", other.draft(0, 0), 1);
    }

    private static void draftAddsAPoint() {
        Check.sentence("Promise 2: Adds a point to the draft of a road");
        SheetMaker maker = new SheetMaker();
        int[] places = {39, 0, 0, 39, 7, 8, 8, 7, 20, 20, 20, 21, 0, 0, 39, 39};
        for (int i = 0; i < places.length; i += 2) {
            Check.due("points then", maker.draft(places[i], places[i + 1]), i / 2 + 1);
        }
        maker.road(3);
        addRoad(maker, 3, 30, 30, 31, 31);
        for (int i = 0; i < places.length; i += 2) {
            String place = places[i] + " " + places[i + 1];
            Check.due("nothing meets point " + i / 2, maker.meetings(0), 0);
            maker.move(1, 0, places[i], places[i + 1]);
            Check.due("point " + i / 2 + " is met at " + place, maker.meetings(0), 1);
            maker.move(1, 0, 30, 30);
        }
    }

    private static void draftCountsItsPoints() {
        Check.sentence("Promise 2: Returns how many points the draft has then");
        SheetMaker maker = new SheetMaker();
        Check.due("draft of a corner", maker.draft(0, 0), 1);
        Check.due("draft of another corner", maker.draft(39, 39), 2);
        Check.due("draft of the first corner again", maker.draft(0, 0), 3);
        Check.due("draft beside it", maker.draft(0, 1), 4);
        Check.due("draft of the mirrored place", maker.draft(1, 0), 5);
        Check.due("the road of the draft", maker.road(0), 0);
        Check.due("points of the road", maker.points(0, 0), 5);
        Check.due("draft begins anew, where the last one ended too", maker.draft(1, 0), 1);
    }

    private static void draftRefuses() {
        Check.sentence("Promise 2: Throws IllegalArgumentException if x or y is out of range");
        SheetMaker maker = new SheetMaker();
        Check.dueThrow("draft at x -1", Check.OUT_OF_RANGE, () -> maker.draft(-1, 0));
        Check.dueThrow("draft at x 40", Check.OUT_OF_RANGE, () -> maker.draft(40, 0));
        Check.dueThrow("draft at y -1", Check.OUT_OF_RANGE, () -> maker.draft(0, -1));
        Check.dueThrow("draft at y 40", Check.OUT_OF_RANGE, () -> maker.draft(0, 40));
        Check.dueThrow("draft at the least x", Check.OUT_OF_RANGE, () -> maker.draft(Integer.MIN_VALUE, 0));
        Check.dueThrow("draft at the largest y", Check.OUT_OF_RANGE, () -> maker.draft(0, Integer.MAX_VALUE));
        Check.due("the draft is empty still", maker.draft(5, 5), 1);
        Check.sentence("Promise 2: Throws IllegalStateException if the draft has 8 points, or its last point is at "
            + "this place");
        Check.dueThrow("draft at the last place", Check.REFUSED, () -> maker.draft(5, 5));
        for (int i = 2; i <= 8; i++) {
            Check.due("draft of point " + i, maker.draft(i, 0), i);
        }
        Check.dueThrow("draft of a ninth point", Check.REFUSED, () -> maker.draft(20, 20));
        Check.dueThrow("a ninth point out of range", Check.OUT_OF_RANGE, () -> maker.draft(20, 40));
        Check.due("the road of eight", maker.road(3), 0);
        Check.due("it has its eight points", maker.points(0, 0), 8);
    }

    private static void roadTakesTheDraft() {
        Check.sentence("Promise 3: Adds a road by the draft, which is empty then");
        for (int size = 2; size <= 8; size++) {
            SheetMaker maker = new SheetMaker();
            for (int p = 0; p < size; p++) {
                maker.draft(p, p);
            }
            maker.road(3);
            Check.due("all " + size + " points are the road's", maker.left(0, 0), (1 << size) - 1);
            Check.dueThrow("a road of what is left of the draft", Check.REFUSED, () -> maker.road(3));
            Check.due("the draft begins anew, where it ended too", maker.draft(size - 1, size - 1), 1);
            Check.due("and goes on", maker.draft(0, 0), 2);
            Check.due("to another road", maker.road(3), 1);
            Check.due("which has two points", maker.points(1, 0), 2);
            Check.due("and leaves the first one as it was", maker.points(0, 0), size);
        }
    }

    private static void roadsAreNumbered() {
        Check.sentence("Promise 3: Returns its number");
        SheetMaker maker = new SheetMaker();
        for (int number = 0; number < 8; number++) {
            Check.due("number of a road", addRoad(maker, number % 4, 0, number, 9, number), number);
        }
        for (int number = 0; number < 8; number++) {
            Check.due("shown on the scale of its rank", maker.points(number, number % 4), 2);
            if (number % 4 < 3) {
                Check.due("not shown above its rank", maker.points(number, number % 4 + 1), 0);
            }
        }
    }

    private static void roadRefuses() {
        Check.sentence("Promise 3: Throws IllegalStateException if the draft has fewer than 2 points, or there are 8 "
            + "roads");
        SheetMaker maker = new SheetMaker();
        Check.dueThrow("road of an empty draft", Check.REFUSED, () -> maker.road(0));
        maker.draft(1, 1);
        Check.dueThrow("road of one point", Check.REFUSED, () -> maker.road(3));
        Check.dueThrow("road of one point of rank 4", Check.OUT_OF_RANGE, () -> maker.road(4));
        maker.draft(2, 2);
        Check.sentence("Promise 3: Throws IllegalArgumentException if rank is out of range");
        Check.dueThrow("road of rank -1", Check.OUT_OF_RANGE, () -> maker.road(-1));
        Check.dueThrow("road of rank 4", Check.OUT_OF_RANGE, () -> maker.road(4));
        Check.due("the draft stands after what was refused", maker.draft(3, 3), 3);
        Check.due("road of rank 3", maker.road(3), 0);
        for (int number = 1; number < 8; number++) {
            addRoad(maker, 0, 0, number, 9, number);
        }
        maker.draft(1, 1);
        Check.due("a draft beside eight roads", maker.draft(2, 2), 2);
        Check.sentence("Promise 3: Throws IllegalStateException if the draft has fewer than 2 points, or there are 8 "
            + "roads");
        Check.dueThrow("a ninth road", Check.REFUSED, () -> maker.road(0));
        Check.dueThrow("a ninth road of rank 4", Check.OUT_OF_RANGE, () -> maker.road(4));
        Check.due("its draft stands", maker.draft(3, 3), 3);
        Check.dueThrow("its number", Check.NO_SUCH, () -> maker.points(8, 0));
    }

    private static void moveMovesThatPointAlone() {
        Check.sentence("Promise 4: Moves a point of a road");
        SheetMaker maker = new SheetMaker();
        addRoad(maker, 3, 0, 0, 10, 0, 20, 0);
        addRoad(maker, 3, 10, 10, 39, 39);
        Check.due("a straight road has two points left", maker.left(0, 1), 5);
        Check.due("no roads meet", maker.meetings(3), 0);
        Check.due("move with no sheets", maker.move(0, 1, 10, 10), 0);
        Check.due("the point is where it was moved", maker.left(0, 3), 7);
        Check.due("and meets the other road there", maker.meetings(3), 1);
        Check.due("move to where it is", maker.move(0, 1, 10, 10), 0);
        Check.due("move of the first point to where the last one is", maker.move(0, 0, 20, 0), 0);
        Check.due("move of the last point", maker.move(1, 1, 20, 0), 0);
        Check.due("all points stand", maker.left(0, 3), 7);
        maker.move(1, 0, 11, 10);
        Check.due("a way there and back is flat", maker.left(0, 1), 5);
        Check.due("met at its ends alone", maker.meetings(1), 1);
    }

    private static void moveRefuses() {
        Check.sentence("Promise 4: Throws IndexOutOfBoundsException if there is no such road or point");
        SheetMaker maker = new SheetMaker();
        Check.dueThrow("move with no road", Check.NO_SUCH, () -> maker.move(0, 0, 0, 0));
        addRoad(maker, 3, 0, 0, 10, 0, 20, 0);
        Check.dueThrow("move of road -1", Check.NO_SUCH, () -> maker.move(-1, 0, 5, 5));
        Check.dueThrow("move of road 1", Check.NO_SUCH, () -> maker.move(1, 0, 5, 5));
        Check.dueThrow("move of point -1", Check.NO_SUCH, () -> maker.move(0, -1, 5, 5));
        Check.dueThrow("move of point 3", Check.NO_SUCH, () -> maker.move(0, 3, 5, 5));
        Check.dueThrow("move of the largest point", Check.NO_SUCH, () -> maker.move(0, Integer.MAX_VALUE, 5, 5));
        Check.dueThrow("move of the least road", Check.NO_SUCH, () -> maker.move(Integer.MIN_VALUE, 0, 5, 5));
        Check.sentence("Promise 4: Throws IllegalArgumentException if x or y is out of range");
        Check.dueThrow("move to x -1", Check.OUT_OF_RANGE, () -> maker.move(0, 1, -1, 5));
        Check.dueThrow("move to x 40", Check.OUT_OF_RANGE, () -> maker.move(0, 1, 40, 5));
        Check.dueThrow("move to y -1", Check.OUT_OF_RANGE, () -> maker.move(0, 1, 5, -1));
        Check.dueThrow("move to y 40", Check.OUT_OF_RANGE, () -> maker.move(0, 1, 5, 40));
        Check.sentence("Promise 4: Throws IllegalStateException if the point ahead of it or behind it is at this "
            + "place");
        Check.dueThrow("move to the point ahead", Check.REFUSED, () -> maker.move(0, 1, 0, 0));
        Check.dueThrow("move to the point behind", Check.REFUSED, () -> maker.move(0, 1, 20, 0));
        Check.dueThrow("move of the first one to the second", Check.REFUSED, () -> maker.move(0, 0, 10, 0));
        Check.dueThrow("move of the last one to the second", Check.REFUSED, () -> maker.move(0, 2, 10, 0));
        Check.due("nothing was moved", maker.left(0, 1), 5);
        Check.due("the draft is empty still", maker.draft(0, 0), 1);
    }

    private static void moveTellsByItsFirstLine() {
        Check.sentence("The first line of a method's throws clause that applies decides");
        SheetMaker maker = new SheetMaker();
        addRoad(maker, 3, 0, 0, 10, 0);
        Check.dueThrow("no road, out of range", Check.NO_SUCH, () -> maker.move(1, 0, 40, 40));
        Check.dueThrow("no point, out of range", Check.NO_SUCH, () -> maker.move(0, 2, -1, 40));
        // The place behind is (10, 0); (-30, 1) has the same number in a row of 40.
        Check.dueThrow("out of range, at the place behind", Check.OUT_OF_RANGE, () -> maker.move(0, 0, -30, 1));
    }

    private static void moveCountsTheSheetsWithErrata() {
        Check.sentence("Promise 4: Returns how many sheets have errata then, of those that were printed");
        SheetMaker maker = new SheetMaker();
        addRoad(maker, 2, 0, 0, 10, 0, 20, 0);
        for (int scale = 0; scale <= 3; scale++) {
            maker.sheet(scale, 0, 0, 39, 39, SheetMaker.NONE);
        }
        Check.due("none was printed", maker.move(0, 1, 11, 0), 0);
        maker.print(0, 1);
        maker.print(1, 1);
        maker.print(3, 1);
        Check.due("a point that is left on scale 0 alone", maker.move(0, 1, 10, 0), 1);
        Check.due("a last point", maker.move(0, 2, 21, 0), 2);
        Check.due("back again", maker.move(0, 2, 20, 0), 1);
        maker.print(2, 1);
        Check.due("a first point, on three printed sheets", maker.move(0, 0, 1, 0), 3);
        Check.due("back to where it was, but for point 1", maker.move(0, 0, 0, 0), 1);
        Check.due("all is as it was printed", maker.move(0, 1, 11, 0), 0);
    }
}
