/** Promises 7 to 10: points, left, meetings and meetingsByPairs. */
final class ScaleTests {
    private ScaleTests() {
    }

    public static void main(String[] args) {
        scaleZeroKeepsAllPoints();
        hiddenRoadsHaveNothingLeft();
        triangleMustBeLess();
        leastTriangleGoesFirst();
        lowestNumberGoesOfEqualOnes();
        trianglesFollowWhatIsLeft();
        placesOfOtherRoadsStay();
        hiddenRoadsKeepNoPlaces();
        ownPlacesAndGonePoints();
        leftIsTheSetOfPoints();
        pairsAreCountedOnce();
        pointsAndLeftRefuse();
        meetingsRefuse();
        Check.end();
    }

    private static void dueLeft(String what, SheetMaker maker, int road, int scale, int set) {
        Check.due("left: " + what, maker.left(road, scale), set);
        Check.due("points: " + what, maker.points(road, scale), Integer.bitCount(set));
    }

    private static void dueMeetings(String what, SheetMaker maker, int scale, int pairs) {
        Check.due("meetings: " + what, maker.meetings(scale), pairs);
        Check.due("meetingsByPairs: " + what, maker.meetingsByPairs(scale), pairs);
    }

    private static void scaleZeroKeepsAllPoints() {
        Check.sentence("Promise 7: Returns how many points of a road are left on a scale");
        SheetMaker maker = new SheetMaker();
        RoadTests.addRoad(maker, 3, 0, 0, 1, 0, 2, 0, 3, 0, 4, 0, 5, 0, 6, 0, 7, 0);
        dueLeft("a straight road on scale 0", maker, 0, 0, 255);
        dueLeft("a straight road on scale 1", maker, 0, 1, 129);
        dueLeft("a straight road on scale 3", maker, 0, 3, 129);
        RoadTests.addRoad(maker, 3, 0, 9, 1, 9);
        dueLeft("a road of two points", maker, 1, 3, 3);
    }

    private static void hiddenRoadsHaveNothingLeft() {
        Check.sentence("Promise 7: Returns how many; 0 if it is not shown");
        for (int rank = 0; rank <= 3; rank++) {
            SheetMaker maker = new SheetMaker();
            RoadTests.addRoad(maker, rank, 0, 0, 30, 0, 30, 30);
            for (int scale = 0; scale <= 3; scale++) {
                dueLeft("rank " + rank + " on scale " + scale, maker, 0, scale, rank >= scale ? 7 : 0);
            }
        }
    }

    /** Each row: how long the way is, how far off point 1 lies (the triangle is their product), what is left. */
    private static void triangleMustBeLess() {
        Check.sentence("A point may go if this is less than 20 times the scale");
        int[][] ways = {{19, 1, 5, 5, 5}, {20, 1, 7, 5, 5}, {39, 1, 7, 5, 5}, {20, 2, 7, 7, 5}, {29, 2, 7, 7, 5},
            {20, 3, 7, 7, 7}, {30, 2, 7, 7, 7}};
        for (int[] way : ways) {
            SheetMaker over = new SheetMaker();
            RoadTests.addRoad(over, 3, 0, 9, 3, 9 + way[1], way[0], 9);
            SheetMaker under = new SheetMaker();
            RoadTests.addRoad(under, 3, 0, 9, 3, 9 - way[1], way[0], 9);
            SheetMaker upright = new SheetMaker();
            RoadTests.addRoad(upright, 3, 9, 0, 9 + way[1], 3, 9, way[0]);
            for (int scale = 1; scale <= 3; scale++) {
                String what = way[0] + " by " + way[1] + " on scale " + scale;
                dueLeft(what, over, 0, scale, way[1 + scale]);
                dueLeft(what + ", under the way", under, 0, scale, way[1 + scale]);
                dueLeft(what + ", upright", upright, 0, scale, way[1 + scale]);
            }
        }
    }

    private static void leastTriangleGoesFirst() {
        Check.sentence("the one goes whose triangle is least");
        SheetMaker maker = new SheetMaker();
        // Point 2 (6) goes ahead of point 1 (9), whose triangle is 40 then.
        RoadTests.addRoad(maker, 3, 0, 0, 8, 3, 11, 3, 16, 1);
        dueLeft("point 2 goes, and makes 1 larger", maker, 0, 1, 11);
        SheetMaker turned = new SheetMaker();
        RoadTests.addRoad(turned, 3, 16, 1, 11, 3, 8, 3, 0, 0);
        dueLeft("point 1 goes, and makes 2 larger", turned, 0, 1, 13);
    }

    private static void lowestNumberGoesOfEqualOnes() {
        Check.sentence("of several the one with the lowest number");
        SheetMaker maker = new SheetMaker();
        // Both triangles are 15; either one's going makes the other's 30.
        RoadTests.addRoad(maker, 3, 0, 0, 5, 3, 10, 3, 15, 0);
        dueLeft("of equal ones the lowest goes", maker, 0, 1, 13);
        SheetMaker blocked = new SheetMaker();
        RoadTests.addRoad(blocked, 3, 0, 0, 5, 3, 10, 3, 15, 0);
        RoadTests.addRoad(blocked, 3, 5, 3, 5, 30);
        dueLeft("the lowest of those that may go", blocked, 0, 1, 11);
    }

    private static void trianglesFollowWhatIsLeft() {
        Check.sentence("The triangle of a point is that with the point left ahead of it and the point left behind it");
        SheetMaker maker = new SheetMaker();
        // An arc of many small steps: each one's going makes its neighbours' triangles larger.
        RoadTests.addRoad(maker, 3, 0, 0, 3, 1, 6, 0, 9, 4, 12, 0, 15, 0, 18, 0, 21, 9);
        dueLeft("scale 1", maker, 0, 1, 221);
        dueLeft("scale 2", maker, 0, 2, 201);
        dueLeft("scale 3", maker, 0, 3, 201);
    }

    private static void placesOfOtherRoadsStay() {
        Check.sentence("and no other road that the scale shows has a point at its place");
        SheetMaker maker = new SheetMaker();
        RoadTests.addRoad(maker, 3, 0, 0, 10, 0, 20, 0, 30, 0);
        dueLeft("a road alone", maker, 0, 3, 9);
        RoadTests.addRoad(maker, 2, 10, 5, 10, 0, 10, 9);
        dueLeft("crossed on scale 2", maker, 0, 2, 11);
        dueLeft("the crossing road's point stays too", maker, 1, 2, 7);
        dueLeft("not crossed on scale 3", maker, 0, 3, 9);
        dueMeetings("crossed", maker, 2, 1);
        dueMeetings("the other one is hidden", maker, 3, 0);
        maker.move(1, 1, 11, 0);
        dueLeft("not crossed any more", maker, 0, 2, 9);
        dueLeft("nor does the other one's point stay", maker, 1, 1, 5);
        dueMeetings("not crossed any more", maker, 0, 0);
    }

    private static void hiddenRoadsKeepNoPlaces() {
        Check.sentence("and no other road that the scale shows has a point at its place");
        SheetMaker maker = new SheetMaker();
        RoadTests.addRoad(maker, 1, 10, 0, 10, 9);
        RoadTests.addRoad(maker, 3, 0, 0, 10, 0, 20, 0);
        dueLeft("both are shown", maker, 1, 1, 7);
        dueLeft("the other one is hidden", maker, 1, 2, 5);
        dueMeetings("both are shown", maker, 1, 1);
        dueMeetings("the other one is hidden", maker, 2, 0);
    }

    private static void ownPlacesAndGonePoints() {
        Check.sentence("of all its points, gone or not");
        SheetMaker maker = new SheetMaker();
        RoadTests.addRoad(maker, 3, 0, 0, 5, 0, 9, 0, 5, 0, 0, 0);
        dueLeft("a road's own places keep nothing", maker, 0, 1, 17);
        dueMeetings("a road does not meet itself", maker, 1, 0);
        RoadTests.addRoad(maker, 3, 5, 0, 9, 0);
        dueLeft("every point at a met place stays", maker, 0, 3, 31);
        dueMeetings("two places, one pair", maker, 3, 1);
        SheetMaker both = new SheetMaker();
        RoadTests.addRoad(both, 3, 0, 0, 5, 0, 10, 0);
        RoadTests.addRoad(both, 3, 1, 1, 5, 0, 9, 0);
        dueLeft("each would go but for the other", both, 0, 3, 7);
        dueLeft("each would go but for the first", both, 1, 3, 7);
        dueMeetings("inner points meet", both, 3, 1);
    }

    /** A straight road, and another one that keeps each set of its inner points. */
    private static void leftIsTheSetOfPoints() {
        for (int kept = 0; kept < 64; kept++) {
            SheetMaker maker = new SheetMaker();
            RoadTests.addRoad(maker, 3, 0, 9, 1, 9, 2, 9, 3, 9, 4, 9, 5, 9, 6, 9, 7, 9);
            int set = 1 + 128;
            maker.draft(30, 30);
            for (int p = 1; p <= 6; p++) {
                if ((kept >> p - 1 & 1) != 0) {
                    maker.draft(p, 9);
                    set += 1 << p;
                }
            }
            maker.draft(31, 31);
            maker.road(3);
            Check.sentence("Promise 8: Returns which points of a road are left on a scale");
            Check.due("first and last, and set " + kept + " of the others", maker.left(0, 2), set);
            Check.sentence("Promise 8: Returns the set: the point p counts 2 to the power of p");
            Check.due("all of them", maker.left(0, 0), 1 + 2 + 4 + 8 + 16 + 32 + 64 + 128);
            Check.sentence("Promise 7: Returns how many points of a road are left on a scale");
            Check.due("first and last, and some of the others", maker.points(0, 2), 2 + Integer.bitCount(kept));
        }
    }

    private static void pairsAreCountedOnce() {
        Check.sentence("Promise 9: Returns how many pairs of roads that a scale shows have a point that is left of "
            + "each at one place");
        SheetMaker maker = new SheetMaker();
        for (int r = 0; r < 8; r++) {
            RoadTests.addRoad(maker, r / 2, r, 30, 20, 20, r, 10);
        }
        dueMeetings("eight roads through one place", maker, 0, 28);
        dueMeetings("six of them", maker, 1, 15);
        dueMeetings("four of them", maker, 2, 6);
        dueMeetings("two of them", maker, 3, 1);
        maker.move(7, 1, 20, 21);
        dueMeetings("one went elsewhere", maker, 0, 21);
        dueMeetings("none is left", maker, 3, 0);
        Check.sentence("Promise 10: Returns how many pairs");
        SheetMaker lines = new SheetMaker();
        RoadTests.addRoad(lines, 3, 0, 0, 10, 10);
        RoadTests.addRoad(lines, 3, 0, 10, 10, 0);
        dueMeetings("lines that cross where no point is", lines, 0, 0);
    }

    private static void pointsAndLeftRefuse() {
        SheetMaker maker = new SheetMaker();
        RoadTests.addRoad(maker, 3, 0, 0, 10, 0, 20, 0);
        int[] noRoads = {-1, 1, 8, Integer.MIN_VALUE, Integer.MAX_VALUE};
        int[] noScales = {-1, 4, Integer.MIN_VALUE, Integer.MAX_VALUE};
        for (int road : noRoads) {
            refuse(maker, road, 0);
            refuse(maker, road, 4);
        }
        for (int scale : noScales) {
            refuse(maker, 0, scale);
        }
    }

    private static void refuse(SheetMaker maker, int road, int scale) {
        Check.sentence("Promise 7: Throws IndexOutOfBoundsException if there is no such road or scale");
        Check.dueThrow("points of " + road + " on " + scale, Check.NO_SUCH, () -> maker.points(road, scale));
        Check.sentence("Promise 8: Throws IndexOutOfBoundsException if there is no such road or scale");
        Check.dueThrow("left of " + road + " on " + scale, Check.NO_SUCH, () -> maker.left(road, scale));
    }

    private static void meetingsRefuse() {
        SheetMaker maker = new SheetMaker();
        int[] noScales = {-1, 4, Integer.MIN_VALUE, Integer.MAX_VALUE};
        for (int scale : noScales) {
            Check.sentence("Promise 9: Throws IndexOutOfBoundsException if there is no such scale");
            Check.dueThrow("meetings on scale " + scale, Check.NO_SUCH, () -> maker.meetings(scale));
            Check.sentence("Promise 10: Throws IndexOutOfBoundsException if there is no such scale");
            Check.dueThrow("meetingsByPairs on scale " + scale, Check.NO_SUCH, () -> maker.meetingsByPairs(scale));
        }
    }
}
