import java.util.ArrayList;
import java.util.List;

/**
 * Which exception a refused call throws, and that it changes nothing: in three states each line of each throws clause,
 * and all lines that can apply together, is called on one of two objects that were made alike, which then are asked for
 * all that they hold.
 */
final class RefusalTests {
    private interface Making {
        SheetMaker make();
    }

    private interface Taking {
        int with(SheetMaker maker);
    }

    private static final int NONE = SheetMaker.NONE;
    private static final int LAST = 39;

    private static String state;
    private static Making making;

    private RefusalTests() {
    }

    public static void main(String[] args) {
        kindsOfRefusals();
        inANewObject();
        inSomeObject();
        inAFullObject();
        manyRefusedCallsLeaveNoTrace();
        Check.end();
    }

    private static void in(String name, Making made) {
        state = name + ": ";
        making = made;
    }

    private static void refused(String what, Class<? extends RuntimeException> kind, Taking call) {
        SheetMaker one = making.make();
        SheetMaker other = making.make();
        Check.sentence("The first line of a method's throws clause that applies decides");
        Check.dueThrow(state + what, kind, () -> call.with(one));
        Check.sentence("a call that throws changes nothing");
        Check.dueThrow(state + what + " again", kind, () -> call.with(one));
        Check.due(state + "all that is held after " + what, held(one), held(other));
    }

    private static void noSuch(String what, Taking call) {
        refused(what, Check.NO_SUCH, call);
    }

    private static void outOfRange(String what, Taking call) {
        refused(what, Check.OUT_OF_RANGE, call);
    }

    private static void notAllowed(String what, Taking call) {
        refused(what, Check.REFUSED, call);
    }

    // ---- each kind of refusal, where all else is as it should be

    private static void kindsOfRefusals() {
        SheetMaker maker = some();
        Check.sentence("IndexOutOfBoundsException: there is no such road, point, name, scale or sheet");
        Check.dueThrow("no such road", Check.NO_SUCH, () -> maker.left(3, 0));
        Check.dueThrow("no such point", Check.NO_SUCH, () -> maker.move(0, 3, 1, 1));
        Check.dueThrow("no such name", Check.NO_SUCH, () -> maker.label(0, 4));
        Check.dueThrow("no such scale", Check.NO_SUCH, () -> maker.left(0, 4));
        Check.dueThrow("no such sheet", Check.NO_SUCH, () -> maker.label(2, 0));
        Check.sentence("IllegalArgumentException: another argument is out of range");
        Check.dueThrow("an x", Check.OUT_OF_RANGE, () -> maker.draft(40, 0));
        Check.dueThrow("a y", Check.OUT_OF_RANGE, () -> maker.shift(0, 0, 40));
        Check.dueThrow("a rank", Check.OUT_OF_RANGE, () -> maker.name(0, 0, 1, 4));
        Check.dueThrow("a length", Check.OUT_OF_RANGE, () -> maker.name(0, 0, 9, 0));
        Check.dueThrow("an end of a sheet", Check.OUT_OF_RANGE, () -> maker.sheet(0, 1, 0, 0, 0, NONE));
        Check.dueThrow("a fold", Check.OUT_OF_RANGE, () -> maker.sheet(0, 0, 0, 0, 0, 40));
        Check.dueThrow("a number of copies", Check.OUT_OF_RANGE, () -> maker.print(0, 101));
        Check.sentence("IllegalStateException: as the method says");
        Check.dueThrow("a draft of one point", Check.REFUSED, () -> maker.road(0));
        Check.dueThrow("the draft's last place", Check.REFUSED, () -> maker.draft(30, 30));
        Check.dueThrow("the place of the point behind", Check.REFUSED, () -> maker.move(0, 0, 5, 0));
        Check.dueThrow("more than the stock", Check.REFUSED, () -> maker.sell(0, 51));
    }

    // ---- all that an object holds, asked for by the calls of the face

    private static List<Object> held(SheetMaker maker) {
        List<Object> answers = new ArrayList<>();
        ask(maker, answers);
        probePlaces(maker, answers);
        change(maker, answers);
        ask(maker, answers);
        return answers;
    }

    private static void tell(List<Object> answers, Check.Call call) {
        answers.add(Check.outcome(call));
    }

    private static void ask(SheetMaker maker, List<Object> answers) {
        for (int i = 0; i < 8; i++) {
            int number = i;
            tell(answers, () -> maker.left(number, 0));
            tell(answers, () -> maker.left(number, 2));
            tell(answers, () -> maker.stock(number));
            tell(answers, () -> maker.errata(number));
        }
        for (int i = 0; i < 4; i++) {
            int scale = i;
            tell(answers, () -> maker.meetings(scale));
        }
        for (int i = 0; i < 11; i++) {
            int name = i;
            tell(answers, () -> maker.label(0, name));
            tell(answers, () -> maker.label(1, name));
        }
        for (int i = 0; i < 10; i++) {
            int y = 3 * i;
            tell(answers, () -> maker.at(0, 15, y));
        }
    }

    /** A move to where a neighbour was made to lie is refused as long as it lies there. */
    private static void probePlaces(SheetMaker maker, List<Object> answers) {
        for (int i = 0; i < 8; i++) {
            int road = i;
            tell(answers, () -> maker.move(road, 0, 5, road));
            tell(answers, () -> maker.move(road, 1, 0, road));
            tell(answers, () -> maker.move(road, 2, 5, road));
            tell(answers, () -> maker.move(road, 1, 9, road + 1));
        }
    }

    /** The draft's last place and its size show in what it takes; the places of its road show in who meets it. */
    private static void change(SheetMaker maker, List<Object> answers) {
        tell(answers, () -> maker.draft(30, 30));
        tell(answers, () -> maker.draft(31, 31));
        tell(answers, () -> maker.road(3));
        tell(answers, () -> maker.draft(30, 30));
        tell(answers, () -> maker.draft(33, 37));
        tell(answers, () -> maker.road(3));
        tell(answers, () -> maker.name(2, 36, 2, 3));
        tell(answers, () -> maker.shift(0, 3, 36));
        tell(answers, () -> maker.sell(0, 1));
        tell(answers, () -> maker.print(0, 3));
        tell(answers, () -> maker.print(1, 4));
        tell(answers, () -> maker.sheet(0, 0, 0, LAST, LAST, 20));
    }

    // ---- no roads, names and sheets, an empty draft

    private static void inANewObject() {
        in("a new object", SheetMaker::new);
        outOfRange("draft at x 40", m -> m.draft(40, 0));
        outOfRange("draft at y -1", m -> m.draft(0, -1));
        outOfRange("road of rank 4, of an empty draft", m -> m.road(4));
        notAllowed("road of an empty draft", m -> m.road(0));
        noSuch("move with no roads, out of range", m -> m.move(0, 0, 40, 40));
        outOfRange("name of length 9", m -> m.name(0, 0, 9, 0));
        noSuch("shift with no names, out of range", m -> m.shift(0, -1, 40));
        noSuch("points with no roads", m -> m.points(0, 0));
        noSuch("left with no roads", m -> m.left(0, 0));
        noSuch("meetings on scale 4", m -> m.meetings(4));
        noSuch("meetingsByPairs on scale -1", m -> m.meetingsByPairs(-1));
        noSuch("sheet of scale 4, out of range", m -> m.sheet(4, 9, 9, 8, 8, 40));
        outOfRange("sheet with a fold at 40", m -> m.sheet(0, 0, 0, LAST, LAST, 40));
        noSuch("label with no sheets and names", m -> m.label(0, 0));
        noSuch("at with no sheets, out of range", m -> m.at(0, 40, -1));
        noSuch("print with no sheets, out of range", m -> m.print(0, 0));
        noSuch("sell with no sheets, out of range", m -> m.sell(0, 1001));
        noSuch("stock with no sheets", m -> m.stock(0));
        noSuch("errata with no sheets", m -> m.errata(0));
    }

    // ---- some of everything: a draft of one point, a sheet that has errata, and one that was not printed

    private static SheetMaker some() {
        SheetMaker maker = new SheetMaker();
        addRoads(maker, 3);
        for (int n = 0; n < 4; n++) {
            maker.name(14, 3 * n, 2, n % 4);
        }
        maker.sheet(0, 0, 0, LAST, LAST, NONE);
        maker.sheet(1, 0, 0, 20, 20, 16);
        maker.print(0, 50);
        maker.shift(3, 14, 0);
        maker.move(2, 2, 9, 3);
        maker.draft(30, 30);
        return maker;
    }

    private static void addRoads(SheetMaker maker, int many) {
        for (int r = 0; r < many; r++) {
            RoadTests.addRoad(maker, r % 4, 0, r, 5, r, 9, r);
        }
    }

    private static void inSomeObject() {
        in("some object", RefusalTests::some);
        refusedRoadsInSomeObject();
        refusedNamesInSomeObject();
        refusedSheetsInSomeObject();
    }

    private static void refusedRoadsInSomeObject() {
        outOfRange("draft at x -1", m -> m.draft(-1, 30));
        // (-10, 31) has the number of (30, 30) in rows of 40.
        outOfRange("draft out of range, at the last place's number", m -> m.draft(-10, 31));
        notAllowed("draft at the last place", m -> m.draft(30, 30));
        outOfRange("road of rank -1, of one point", m -> m.road(-1));
        notAllowed("road of one point", m -> m.road(3));
        noSuch("move of road 3", m -> m.move(3, 0, 1, 1));
        noSuch("move of point 3", m -> m.move(0, 3, 1, 1));
        noSuch("move of point -1", m -> m.move(0, -1, 1, 1));
        noSuch("move of road -1 and point -1, out of range", m -> m.move(-1, -1, -1, -1));
        noSuch("move of point 3 to the one ahead of it", m -> m.move(0, 3, 9, 0));
        outOfRange("move to x 40", m -> m.move(0, 0, 40, 1));
        outOfRange("move to y 40", m -> m.move(0, 0, 1, 40));
        // (45, 0) and (-35, 2) have the number of (5, 1) in rows of 40.
        outOfRange("move out of range, at the number of the point behind", m -> m.move(1, 0, 45, 0));
        outOfRange("move out of range, at the number of the point ahead", m -> m.move(1, 2, -35, 2));
        notAllowed("move to the point behind", m -> m.move(1, 0, 5, 1));
        notAllowed("move of an inner point to the one ahead", m -> m.move(1, 1, 0, 1));
        notAllowed("move of an inner point to the one behind", m -> m.move(1, 1, 9, 1));
        notAllowed("move of the last point to the one ahead", m -> m.move(1, 2, 5, 1));
        noSuch("points of road 3", m -> m.points(3, 0));
        noSuch("points on scale 4", m -> m.points(0, 4));
        noSuch("left of road 3 on scale 4", m -> m.left(3, 4));
        noSuch("meetings on scale -1", m -> m.meetings(-1));
        noSuch("meetingsByPairs on scale 4", m -> m.meetingsByPairs(4));
    }

    private static void refusedNamesInSomeObject() {
        outOfRange("name at x 40", m -> m.name(40, 0, 1, 0));
        outOfRange("name at y -1", m -> m.name(0, -1, 1, 0));
        outOfRange("name of length 0", m -> m.name(0, 0, 0, 0));
        outOfRange("name of rank 4", m -> m.name(0, 0, 1, 4));
        noSuch("shift of name 4", m -> m.shift(4, 0, 0));
        noSuch("shift of name -1, out of range", m -> m.shift(-1, 40, 0));
        outOfRange("shift to x 40", m -> m.shift(0, 40, 1));
        outOfRange("shift to y 40", m -> m.shift(0, 1, 40));
    }

    private static void refusedSheetsInSomeObject() {
        noSuch("sheet of scale -1", m -> m.sheet(-1, 0, 0, LAST, LAST, NONE));
        noSuch("sheet of scale -1, out of range", m -> m.sheet(-1, 0, 0, LAST, LAST, 40));
        outOfRange("sheet whose right is less than its left", m -> m.sheet(0, 9, 0, 8, LAST, NONE));
        outOfRange("sheet whose high is less than its low", m -> m.sheet(0, 0, 9, LAST, 8, NONE));
        noSuch("label on sheet 2", m -> m.label(2, 0));
        noSuch("label of name 4", m -> m.label(0, 4));
        noSuch("at on sheet 2, out of range", m -> m.at(2, -1, 0));
        outOfRange("at x -1", m -> m.at(0, -1, 0));
        outOfRange("at y 40", m -> m.at(0, 0, 40));
        noSuch("print of sheet 2", m -> m.print(2, 1));
        outOfRange("print of none while there are errata", m -> m.print(0, 0));
        outOfRange("print of 101 while there are errata", m -> m.print(0, 101));
        outOfRange("print of 101 of what was not printed", m -> m.print(1, 101));
        noSuch("sell of sheet 2", m -> m.sell(2, 1));
        outOfRange("sell of none", m -> m.sell(0, 0));
        outOfRange("sell of 1001, more than there are too", m -> m.sell(0, 1001));
        notAllowed("sell of one more than there are", m -> m.sell(0, 51));
        notAllowed("sell of what was not printed", m -> m.sell(1, 1));
        noSuch("stock of sheet 2", m -> m.stock(2));
        noSuch("errata of sheet 2", m -> m.errata(2));
    }

    // ---- as much of everything as there may be

    private static SheetMaker full() {
        SheetMaker maker = new SheetMaker();
        addRoads(maker, 8);
        for (int n = 0; n < 10; n++) {
            maker.name(14, 3 * n, 2, n % 4);
        }
        for (int s = 0; s < 6; s++) {
            maker.sheet(s % 4, 0, 0, 30 + s, LAST, NONE);
        }
        for (int i = 0; i < 10; i++) {
            maker.print(0, 100);
            maker.print(2, 99);
        }
        for (int p = 0; p < 8; p++) {
            maker.draft(p, p);
        }
        return maker;
    }

    private static void inAFullObject() {
        in("a full object", RefusalTests::full);
        outOfRange("draft of a ninth point, out of range", m -> m.draft(40, 0));
        notAllowed("draft of a ninth point", m -> m.draft(20, 20));
        notAllowed("draft of a ninth point at the last place", m -> m.draft(7, 7));
        outOfRange("a ninth road of rank 4", m -> m.road(4));
        notAllowed("a ninth road", m -> m.road(0));
        outOfRange("an eleventh name at x 40", m -> m.name(40, 0, 1, 0));
        outOfRange("an eleventh name of length 9", m -> m.name(0, 0, 9, 0));
        notAllowed("an eleventh name", m -> m.name(0, 0, 1, 0));
        noSuch("a seventh sheet of scale 4, out of range", m -> m.sheet(4, -1, 0, 0, 0, 0));
        noSuch("a seventh sheet of scale 4", m -> m.sheet(4, 0, 0, 0, 0, 0));
        outOfRange("a seventh sheet, out of range", m -> m.sheet(0, 0, 0, 40, 0, 0));
        notAllowed("a seventh sheet", m -> m.sheet(0, 0, 0, 0, 0, 0));
        noSuch("move of road 8, out of range", m -> m.move(8, 0, 40, 40));
        noSuch("shift of name 10", m -> m.shift(10, 0, 0));
        noSuch("label on sheet 6", m -> m.label(6, 0));
        noSuch("at on sheet 6, out of range", m -> m.at(6, 40, 40));
        noSuch("print of sheet 6", m -> m.print(6, 100));
        outOfRange("print of 101 to a full stock", m -> m.print(0, 101));
        notAllowed("print of one to a full stock", m -> m.print(0, 1));
        notAllowed("print of 100 to a full stock", m -> m.print(0, 100));
        notAllowed("print of one too many", m -> m.print(2, 11));
        outOfRange("sell of 1001 of a full stock", m -> m.sell(0, 1001));
        notAllowed("sell of one more than there are", m -> m.sell(2, 991));
        in("a full object without a draft", RefusalTests::fullWithoutADraft);
        notAllowed("a ninth road of no points", m -> m.road(0));
        outOfRange("a ninth road of no points of rank -1", m -> m.road(-1));
    }

    private static SheetMaker fullWithoutADraft() {
        SheetMaker maker = new SheetMaker();
        addRoads(maker, 8);
        return maker;
    }

    /** Runs of any calls: the allowed ones of them are made on a second object, which must answer them alike. */
    private static void manyRefusedCallsLeaveNoTrace() {
        Check.sentence("a call that throws changes nothing");
        for (int run = 0; run < 300; run++) {
            AnyCalls any = new AnyCalls(run);
            SheetMaker one = new SheetMaker();
            SheetMaker other = new SheetMaker();
            for (int call = 0; call < 512; call++) {
                int[] next = any.next();
                Object answer = Check.outcome(() -> AnyCalls.make(one, next));
                if (answer instanceof Integer) {
                    String what = "run " + run + ", call " + call + " of method " + next[0];
                    Check.due(what, Check.outcome(() -> AnyCalls.make(other, next)), answer);
                }
            }
        }
    }
}
