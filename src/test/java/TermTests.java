/** The sentences under 'Terms', and those that say what an object is used for: a test of its own for each boundary. */
final class TermTests {
    private static final int NONE = SheetMaker.NONE;
    private static final int RIGHT = SheetMaker.RIGHT;
    private static final int LAST = 39;

    private TermTests() {
    }

    public static void main(String[] args) {
        the512thCallAnswers();
        placesAreOnTheMap();
        roadsAreAtMostEight();
        roadsHaveTwoToEightPoints();
        followingPointsAreNotAtOnePlace();
        namesAreAtMostTen();
        lengthsAreOneToEight();
        namesHaveAPlace();
        ranksAreZeroToThree();
        scalesAreZeroToThree();
        scalesShowTheirRanks();
        firstAndLastPointsStay();
        theLeastTriangleGoesAgainAndAgain();
        ofSeveralTheLowestGoes();
        amountsAreThoseOfTheProducts();
        amountsMustBeLess();
        otherRoadsKeepPlaces();
        goneAndHiddenPointsOfOtherRoads();
        anyTwoPointsMeet();
        pairsAreOfTwoRoads();
        Check.end();
    }

    // ---- an object

    private static void the512thCallAnswers() {
        Check.sentence("An object is used for at most 512 calls after it has been made");
        SheetMaker maker = new SheetMaker();
        maker.sheet(0, 0, 0, LAST, LAST, NONE);
        maker.name(0, 0, 8, 3);
        maker.print(0, 100);
        for (int call = 4; call <= 511; call++) {
            int x = call % 2 == 0 ? 1 : 0;
            Check.due("call " + call, maker.shift(0, x, 0), x);
        }
        Check.due("call 512", maker.shift(0, 31, LAST), 1);
    }

    // ---- roads and names

    private static void placesAreOnTheMap() {
        Check.sentence("Places have an x and a y, 0 to 39");
        for (int x = -1; x <= 40; x++) {
            for (int y = -1; y <= 40; y++) {
                placeIs(x, y, x >= 0 && x <= LAST && y >= 0 && y <= LAST);
            }
        }
    }

    private static void placeIs(int x, int y, boolean onMap) {
        SheetMaker maker = new SheetMaker();
        RoadTests.addRoad(maker, 0, x < 20 ? 39 : 0, 0, x < 20 ? 39 : 0, 1);
        maker.name(20, 20, 1, 0);
        maker.sheet(0, 0, 0, LAST, LAST, NONE);
        String place = " at " + x + " " + y;
        Object none = onMap ? (Object) NONE : Check.OUT_OF_RANGE.getName();
        Object zero = onMap ? (Object) 0 : Check.OUT_OF_RANGE.getName();
        Object one = onMap ? (Object) 1 : Check.OUT_OF_RANGE.getName();
        Object label = x == 21 && y == 20 ? (Object) 0 : none;
        Check.due("at" + place, Check.outcome(() -> maker.at(0, x, y)), label);
        Check.due("draft" + place, Check.outcome(() -> maker.draft(x, y)), one);
        Check.due("move" + place, Check.outcome(() -> maker.move(0, 0, x, y)), zero);
        Check.due("name" + place, Check.outcome(() -> maker.name(x, y, 1, 0)), one);
        Check.due("shift" + place, Check.outcome(() -> maker.shift(0, x, y)), zero);
        Check.due("sheet" + place, Check.outcome(() -> maker.sheet(0, x, y, LAST, LAST, NONE)), one);
    }

    private static void roadsAreAtMostEight() {
        Check.sentence("Roads are numbered from 0, at most 8");
        SheetMaker maker = new SheetMaker();
        for (int road = 0; road < 8; road++) {
            int number = road;
            Check.dueThrow("road " + road + " ahead of its making", Check.NO_SUCH, () -> maker.points(number, 0));
            Check.due("the road's number", RoadTests.addRoad(maker, 0, 0, road, 1, road), road);
            Check.due("points of road " + road, maker.points(road, 0), 2);
        }
        maker.draft(0, 20);
        maker.draft(1, 20);
        Check.dueThrow("a ninth road", Check.REFUSED, () -> maker.road(0));
        Check.dueThrow("the ninth road's points", Check.NO_SUCH, () -> maker.points(8, 0));
        Check.due("a draft beside eight roads", maker.draft(2, 20), 3);
    }

    private static void roadsHaveTwoToEightPoints() {
        Check.sentence("a road has 2 to 8 points, numbered from 0");
        for (int size = 0; size <= 8; size++) {
            SheetMaker maker = new SheetMaker();
            for (int p = 0; p < size; p++) {
                Check.due("points of the draft", maker.draft(5 * p, p % 2), p + 1);
            }
            Object want = size < 2 ? (Object) Check.REFUSED.getName() : (Object) 0;
            Check.due("a road of " + size + " points", Check.outcome(() -> maker.road(0)), want);
            if (size >= 2) {
                pointsAre(maker, size);
            }
        }
        SheetMaker ninth = new SheetMaker();
        for (int p = 0; p < 8; p++) {
            ninth.draft(p, 0);
        }
        Check.dueThrow("a ninth point", Check.REFUSED, () -> ninth.draft(8, 0));
    }

    private static void pointsAre(SheetMaker maker, int size) {
        Check.due("how many are left", maker.points(0, 0), size);
        Check.due("all of " + size + " are left", maker.left(0, 0), (1 << size) - 1);
        for (int p = 0; p < size; p++) {
            Check.due("move of point " + p + " of " + size, maker.move(0, p, 39, p), 0);
        }
        Check.dueThrow("move of point " + size, Check.NO_SUCH, () -> maker.move(0, size, 20, 20));
        Check.dueThrow("move of point -1", Check.NO_SUCH, () -> maker.move(0, -1, 20, 20));
        Check.due("the draft is empty then", maker.draft(5 * (size - 1), (size - 1) % 2), 1);
    }

    private static void followingPointsAreNotAtOnePlace() {
        Check.sentence("Two points of a road that follow one another are not at one place");
        SheetMaker maker = new SheetMaker();
        for (int p = 0; p < 7; p++) {
            int x = p;
            maker.draft(x, x);
            Check.dueThrow("point " + (p + 1) + " at the place of point " + p, Check.REFUSED, () -> maker.draft(x, x));
        }
        Check.due("a place that an earlier point has", maker.draft(5, 5), 8);
        Check.dueThrow("a ninth point, where the last one is", Check.REFUSED, () -> maker.draft(5, 5));
        maker.road(0);
        for (int p = 0; p < 7; p++) {
            int point = p;
            int next = p < 6 ? p + 1 : 5;
            Check.dueThrow("point " + p + " to the next", Check.REFUSED, () -> maker.move(0, point, next, next));
            Check.dueThrow("point " + (p + 1) + " to the one ahead", Check.REFUSED,
                () -> maker.move(0, point + 1, point, point));
            Check.due("point " + p + " to its own place", maker.move(0, point, point, point), 0);
        }
        Check.due("point 0 to the place of point 2", maker.move(0, 0, 2, 2), 0);
        Check.due("the last point to the place of the first", maker.move(0, 7, 2, 2), 0);
        Check.due("the first point to where the last one is", maker.move(0, 0, 2, 2), 0);
        Check.due("a road that begins where the one ahead ended", RoadTests.addRoad(maker, 0, 2, 2, 3, 3), 1);
    }

    private static void namesAreAtMostTen() {
        Check.sentence("Names are numbered from 0, at most 10");
        SheetMaker maker = new SheetMaker();
        maker.sheet(0, 0, 0, LAST, LAST, NONE);
        for (int name = 0; name < 10; name++) {
            int number = name;
            Check.dueThrow("name " + name + " ahead of its making", Check.NO_SUCH, () -> maker.label(0, number));
            Check.due("the name's number", maker.name(20, 2 * name, 1, 0), name);
            Check.due("its label", maker.label(0, name), RIGHT);
        }
        Check.dueThrow("an eleventh name", Check.REFUSED, () -> maker.name(20, 30, 1, 0));
        Check.dueThrow("the eleventh name's label", Check.NO_SUCH, () -> maker.label(0, 10));
        Check.due("no label of it", maker.at(0, 21, 30), NONE);
    }

    private static void lengthsAreOneToEight() {
        Check.sentence("a length, 1 to 8");
        for (int length = 1; length <= 8; length++) {
            SheetMaker maker = new SheetMaker();
            maker.sheet(0, 0, 0, LAST, LAST, NONE);
            maker.name(20, 20, length, 0);
            for (int x = 10; x <= 30; x++) {
                boolean taken = x > 20 && x <= 20 + length;
                Check.due("length " + length + " at " + x, maker.at(0, x, 20), taken ? 0 : NONE);
            }
        }
    }

    private static void namesHaveAPlace() {
        Check.sentence("a name has a place");
        for (int x = 0; x <= LAST; x++) {
            for (int y = 0; y <= LAST; y++) {
                SheetMaker maker = new SheetMaker();
                maker.sheet(0, 0, 0, LAST, LAST, NONE);
                maker.name(x, y, 1, 0);
                Check.due("beside the name at " + x + " " + y, maker.at(0, x < LAST ? x + 1 : x - 1, y), 0);
                Check.due("the place itself, " + x + " " + y, maker.at(0, x, y), NONE);
            }
        }
    }

    private static void ranksAreZeroToThree() {
        Check.sentence("and a rank, 0 to 3");
        for (int rank = -2; rank <= 5; rank++) {
            int given = rank;
            SheetMaker maker = new SheetMaker();
            maker.draft(0, 0);
            maker.draft(9, 9);
            Object want = rank >= 0 && rank <= 3 ? (Object) 0 : Check.OUT_OF_RANGE.getName();
            Check.due("a road of rank " + rank, Check.outcome(() -> maker.road(given)), want);
            Check.due("a name of rank " + rank, Check.outcome(() -> maker.name(5, 5, 1, given)), want);
        }
    }

    // ---- scales

    private static void scalesAreZeroToThree() {
        Check.sentence("There are the scales 0 to 3");
        for (int asked = -2; asked <= 5; asked++) {
            int scale = asked;
            SheetMaker maker = new SheetMaker();
            RoadTests.addRoad(maker, 3, 0, 0, 9, 0);
            scaleIs("points", scale, () -> maker.points(0, scale), 2);
            scaleIs("left", scale, () -> maker.left(0, scale), 3);
            scaleIs("meetings", scale, () -> maker.meetings(scale), 0);
            scaleIs("meetingsByPairs", scale, () -> maker.meetingsByPairs(scale), 0);
            scaleIs("sheet", scale, () -> maker.sheet(scale, 0, 0, LAST, LAST, NONE), 0);
        }
    }

    private static void scaleIs(String method, int scale, Check.Call call, int answer) {
        Object want = scale >= 0 && scale <= 3 ? (Object) answer : Check.NO_SUCH.getName();
        Check.due(method + " on scale " + scale, Check.outcome(call), want);
    }

    private static void scalesShowTheirRanks() {
        Check.sentence("A scale shows the roads and names whose rank is the scale or greater");
        for (int rank = 0; rank <= 3; rank++) {
            for (int scale = 0; scale <= 3; scale++) {
                SheetMaker maker = new SheetMaker();
                maker.sheet(scale, 0, 0, LAST, LAST, NONE);
                maker.print(0, 1);
                RoadTests.addRoad(maker, rank, 0, 0, 20, 20);
                boolean shown = rank >= scale;
                String what = "rank " + rank + " on scale " + scale;
                Check.due("points of " + what, maker.points(0, scale), shown ? 2 : 0);
                Check.due("left of " + what, maker.left(0, scale), shown ? 3 : 0);
                Check.due("errata by a road of " + what, maker.errata(0), shown ? 1 : 0);
                maker.name(5, 5, 1, rank);
                Check.due("label of " + what, maker.label(0, 0), shown ? RIGHT : NONE);
                Check.due("errata by both of " + what, maker.errata(0), shown ? 2 : 0);
                RoadTests.addRoad(maker, 3, 20, 20, 0, 20);
                Check.due("meetings of " + what, maker.meetings(scale), shown ? 1 : 0);
                Check.due("meetingsByPairs of " + what, maker.meetingsByPairs(scale), shown ? 1 : 0);
            }
        }
    }

    private static void firstAndLastPointsStay() {
        Check.sentence("other than the first and the last one");
        for (int size = 2; size <= 8; size++) {
            SheetMaker maker = new SheetMaker();
            for (int p = 0; p < size; p++) {
                maker.draft(p, 7);
            }
            maker.road(3);
            for (int scale = 1; scale <= 3; scale++) {
                Check.due(size + " points in a line, on " + scale, maker.left(0, scale), 1 | 1 << size - 1);
            }
            Check.due(size + " points in a line, on 0", maker.left(0, 0), (1 << size) - 1);
        }
        SheetMaker round = new SheetMaker();
        RoadTests.addRoad(round, 3, 5, 5, 6, 5, 5, 5);
        Check.due("first and last at one place", round.left(0, 1), 5);
    }

    private static void theLeastTriangleGoesAgainAndAgain() {
        Check.sentence("On a scale the points of a road that is shown are made fewer: as long as there are points of "
            + "it, other than the first and the last one, that may go, the one goes whose triangle is least");
        SheetMaker flatLater = new SheetMaker();
        // The triangles are 31, 28, 0: only point 3 may go, and point 2's is 56 then.
        RoadTests.addRoad(flatLater, 3, 0, 0, 2, 9, 7, 16, 11, 16, 15, 16);
        Check.due("the flat point goes, and then the rest is too large", flatLater.left(0, 1), 0b10111);
        SheetMaker smaller = new SheetMaker();
        // The triangles are 30 and 9: point 2 goes, and point 1's is 0 then.
        RoadTests.addRoad(smaller, 3, 0, 5, 30, 5, 31, 6, 39, 5);
        Check.due("a point that goes makes another one flat", smaller.left(0, 1), 0b1001);
        SheetMaker spike = new SheetMaker();
        // Point 4 is flat; points 3 and 5 have 8 each then, 3 goes, and 5's is 76 then.
        RoadTests.addRoad(spike, 3, 0, 0, 10, 4, 20, 0, 30, 4, 31, 4, 32, 4, 39, 0);
        Check.due("the least one goes first, be it ever so far behind", spike.left(0, 1), 0b1100111);
    }

    private static void ofSeveralTheLowestGoes() {
        Check.sentence("of several the one with the lowest number");
        // All four triangles are 18, 16, 14: which one goes first decides which ones are left.
        int[][] ways = {{0, 7, 2, 5, 10, 6, 16, 9, 22, 9, 28, 6}, {0, 7, 6, 5, 14, 5, 19, 7, 27, 7, 30, 5},
            {0, 4, 5, 6, 7, 4, 14, 4, 16, 2, 24, 1}};
        int[] sets = {0b110101, 0b110101, 0b101001};
        for (int i = 0; i < ways.length; i++) {
            SheetMaker maker = new SheetMaker();
            RoadTests.addRoad(maker, 3, ways[i]);
            Check.due("of four the lowest one, way " + i, maker.left(0, 1), sets[i]);
        }
        SheetMaker two = new SheetMaker();
        RoadTests.addRoad(two, 3, 0, 0, 5, 3, 10, 3, 15, 0);
        Check.due("of two the lower one", two.left(0, 1), 0b1101);
    }

    /** The document's own formula, for many points ahead and behind on all sides of a point. */
    private static void amountsAreThoseOfTheProducts() {
        Check.sentence("its amount is that of the product of the width to the point behind and the height to the point "
            + "ahead, less the product of the height to the point behind and the width to the point ahead, both seen "
            + "from the point (twice its area)");
        int[] steps = {-9, -7, -4, -2, -1, 0, 1, 2, 3, 5, 8};
        for (int widthAhead : steps) {
            for (int heightAhead : steps) {
                for (int widthBehind : steps) {
                    for (int heightBehind : steps) {
                        triangleBeside(widthAhead, heightAhead, widthBehind, heightBehind);
                    }
                }
            }
        }
    }

    private static void triangleBeside(int widthAhead, int heightAhead, int widthBehind, int heightBehind) {
        boolean isAhead = widthAhead != 0 || heightAhead != 0;
        boolean isBehind = widthBehind != 0 || heightBehind != 0;
        if (isAhead && isBehind) {
            int amount = Math.abs(widthBehind * heightAhead - heightBehind * widthAhead);
            triangleIs(amount, 20 + widthAhead, 20 + heightAhead, 20, 20, 20 + widthBehind, 20 + heightBehind);
        }
    }

    /** All triangles over a way of 39 by 1, the amounts 0 to 78 among them, and the mirrored ones. */
    private static void amountsMustBeLess() {
        Check.sentence("A point may go if this is less than 20 times the scale");
        boolean[] seen = new boolean[80];
        for (int x = 0; x <= LAST; x++) {
            for (int y = 0; y <= 2; y++) {
                int amount = Math.abs(39 * y - x);
                if (x == 0 && y == 0 || x == 39 && y == 1) {
                    continue;
                }
                seen[amount] = true;
                triangleIs(amount, 0, 10, x, 10 + y, 39, 11);
                triangleIs(amount, 39, 10, 39 - x, 10 + y, 0, 11);
                triangleIs(amount, 0, 11, x, 11 - y, 39, 10);
                triangleIs(amount, 10, 0, 10 + y, x, 11, 39);
            }
        }
        triangleIs(0, 0, 10, 20, 10, 39, 10);
        triangleIs(0, 0, 0, 39, 39, 20, 20);
        triangleIs(0, 0, 10, 20, 10, 0, 10);
        for (int amount = 1; amount <= 78; amount++) {
            Check.due("an amount of " + amount + " was tried", seen[amount], true);
        }
        triangleIs(39 * 39, 0, 0, 39, 0, 39, 39);
        triangleIs(39 * 39, 0, 0, 0, 39, 39, 39);
        triangleIs(39 * 39, 39, 39, 0, 0, 0, 39);
    }

    private static void triangleIs(int amount, int... places) {
        SheetMaker maker = new SheetMaker();
        RoadTests.addRoad(maker, 3, places);
        for (int scale = 0; scale <= 3; scale++) {
            String what = "by way of " + places[2] + " " + places[3] + ", twice the area " + amount + ", on " + scale;
            Check.due(what, maker.left(0, scale), amount < 20 * scale ? 0b101 : 0b111);
        }
    }

    private static void otherRoadsKeepPlaces() {
        Check.sentence("no other road that the scale shows has a point at its place");
        for (int point = 0; point < 8; point++) {
            SheetMaker maker = new SheetMaker();
            RoadTests.addRoad(maker, 3, 0, 9, 1, 9, 2, 9, 3, 9, 4, 9, 5, 9, 6, 9, 7, 9);
            RoadTests.addRoad(maker, 3, point, 9, 20, 20);
            int both = 0b10000001 | 1 << point;
            Check.due("kept by another one's first point at " + point, maker.left(0, 3), both);
            maker.move(1, 0, point, 10);
            Check.due("a place beside it keeps nothing", maker.left(0, 3), 0b10000001);
            maker.move(1, 1, point, 9);
            Check.due("kept by another one's last point at " + point, maker.left(0, 3), both);
            Check.due("on scale 1 too", maker.left(0, 1), both);
        }
        SheetMaker mirrored = new SheetMaker();
        RoadTests.addRoad(mirrored, 3, 0, 0, 9, 0, 18, 0);
        RoadTests.addRoad(mirrored, 3, 0, 9, 20, 20);
        Check.due("the mirrored place is another one", mirrored.left(0, 1), 0b101);
    }

    private static void goneAndHiddenPointsOfOtherRoads() {
        Check.sentence("of all its points, gone or not");
        SheetMaker maker = new SheetMaker();
        RoadTests.addRoad(maker, 2, 0, 9, 9, 9, 18, 9);
        RoadTests.addRoad(maker, 1, 9, 0, 9, 9, 9, 18);
        Check.due("each is kept by a point that would go itself", maker.left(0, 1), 0b111);
        Check.due("and so is the other one", maker.left(1, 1), 0b111);
        Check.due("they meet", maker.meetings(1), 1);
        Check.due("the other one is not shown on scale 2", maker.left(0, 2), 0b101);
        Check.due("nor do they meet there", maker.meetings(2), 0);
        Check.due("nor by pairs", maker.meetingsByPairs(2), 0);
        SheetMaker own = new SheetMaker();
        RoadTests.addRoad(own, 3, 9, 9, 5, 9, 9, 9, 12, 9);
        Check.due("a road's own points keep none of it", own.left(0, 1), 0b1001);
        Check.due("nor does it meet itself", own.meetings(1), 0);
    }

    private static void dueMeetings(String what, SheetMaker maker, int scale, int want) {
        Check.due("meetings " + what + " on " + scale, maker.meetings(scale), want);
        Check.due("meetingsByPairs " + what + " on " + scale, maker.meetingsByPairs(scale), want);
    }

    private static void anyTwoPointsMeet() {
        Check.sentence("Promise 10: Returns the same, found from all points of all pairs of these roads, left or not");
        for (int p = 0; p < 8; p++) {
            for (int q = 0; q < 8; q++) {
                SheetMaker maker = new SheetMaker();
                RoadTests.addRoad(maker, 3, 0, 9, 1, 9, 2, 9, 3, 9, 4, 9, 5, 9, 6, 9, 7, 9);
                RoadTests.addRoad(maker, 2, 9, 0, 9, 1, 9, 2, 9, 3, 9, 4, 9, 5, 9, 6, 9, 7);
                dueMeetings("apart", maker, 0, 0);
                maker.move(1, q, p, 9);
                for (int scale = 0; scale <= 3; scale++) {
                    dueMeetings("at " + p + " and " + q, maker, scale, scale <= 2 ? 1 : 0);
                }
            }
        }
    }

    private static void pairsAreOfTwoRoads() {
        Check.sentence("Promise 9: Returns how many pairs");
        SheetMaker maker = new SheetMaker();
        dueMeetings("of no roads", maker, 0, 0);
        for (int road = 0; road < 8; road++) {
            RoadTests.addRoad(maker, 3, 20, 20, 0, road, 20, 20, 0, road);
            dueMeetings("of " + (road + 1) + " roads", maker, 0, road * (road + 1) / 2);
            dueMeetings("of " + (road + 1) + " roads", maker, 3, road * (road + 1) / 2);
        }
    }
}
