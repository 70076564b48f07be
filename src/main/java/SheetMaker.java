import java.util.ArrayList;

/**
 * A map store with roads and names, a generaliser by scales, labels, printed
 * sheets with stocks, and errata. README.md says how it is used.
 */
public final class SheetMaker {
    public static final int NONE = -1;
    public static final int RIGHT = 0, LEFT = 1, ABOVE = 2, BELOW = 3;

    private static final int WIDTH = 40;
    private static final int SCALES = 4;
    private static final int TOP_RANK = 3;
    private static final int MOST_ROADS = 8;
    private static final int LEAST_POINTS = 2;
    private static final int MOST_POINTS = 8;
    private static final int MOST_NAMES = 10;
    private static final int MOST_LENGTH = 8;
    private static final int MOST_SHEETS = 6;
    private static final int MOST_PRINTED = 100;
    private static final int MOST_STOCK = 1000;
    private static final int TRIANGLE_BY_SCALE = 20;

    private final Roads roads = new Roads();
    private final Names names = new Names();
    private final ArrayList<Sheet> sheets = new ArrayList<>();
    // One picture is drawn over again for every question, so that no call makes rows of its own.
    private final Picture present = new Picture();
    private Road drafted = new Road();

    public SheetMaker() {
    }

    // ---- roads and names

    public int draft(int x, int y) throws IllegalArgumentException, IllegalStateException {
        requirePlace(x, y);
        int place = placeOf(x, y);
        if (drafted.size() >= MOST_POINTS) {
            throw new IllegalStateException("the draft is full");
        }
        if (drafted.placeAt(drafted.size() - 1) == place) {
            throw new IllegalStateException("the draft ends at this place");
        }
        drafted.append(place);
        return drafted.size();
    }

    public int road(int rank) throws IllegalArgumentException, IllegalStateException {
        requireRank(rank);
        if (drafted.size() < LEAST_POINTS) {
            throw new IllegalStateException("the draft is too short");
        }
        if (roads.size() >= MOST_ROADS) {
            throw new IllegalStateException("there are as many roads as there may be");
        }
        drafted.giveRank(rank);
        roads.add(drafted);
        roads.generalise();
        drafted = new Road();
        return roads.size() - 1;
    }

    public int move(int road, int point, int x, int y)
            throws IndexOutOfBoundsException, IllegalArgumentException, IllegalStateException {
        Road moved = requireRoad(road);
        if (point < 0 || point >= moved.size()) {
            throw new IndexOutOfBoundsException("no such point");
        }
        requirePlace(x, y);
        int place = placeOf(x, y);
        if (moved.placeAt(point - 1) == place || moved.placeAt(point + 1) == place) {
            throw new IllegalStateException("the point ahead or behind is at this place");
        }
        moved.put(point, place);
        roads.generalise();
        return sheetsWithErrata();
    }

    public int name(int x, int y, int length, int rank) throws IllegalArgumentException, IllegalStateException {
        requirePlace(x, y);
        requireFrom(1, length, MOST_LENGTH);
        requireRank(rank);
        if (names.size() >= MOST_NAMES) {
            throw new IllegalStateException("there are as many names as there may be");
        }
        names.add(new Name(x, y, length, rank));
        return names.size() - 1;
    }

    public int shift(int name, int x, int y) throws IndexOutOfBoundsException, IllegalArgumentException {
        Name shifted = requireName(name);
        requirePlace(x, y);
        shifted.put(x, y);
        return sheetsWithErrata();
    }

    // ---- scales

    public int points(int road, int scale) throws IndexOutOfBoundsException {
        Road asked = requireRoad(road);
        requireScale(scale);
        return Integer.bitCount(asked.leftOn(scale));
    }

    public int left(int road, int scale) throws IndexOutOfBoundsException {
        Road asked = requireRoad(road);
        requireScale(scale);
        return asked.leftOn(scale);
    }

    public int meetings(int scale) throws IndexOutOfBoundsException {
        requireScale(scale);
        return roads.pairsMeetingByLeft(scale);
    }

    public int meetingsByPairs(int scale) throws IndexOutOfBoundsException {
        requireScale(scale);
        return roads.pairsMeetingByAll(scale);
    }

    // ---- sheets

    public int sheet(int scale, int left, int low, int right, int high, int fold)
            throws IndexOutOfBoundsException, IllegalArgumentException, IllegalStateException {
        requireScale(scale);
        requirePlace(left, low);
        requireFrom(left, right, WIDTH - 1);
        requireFrom(low, high, WIDTH - 1);
        requireFrom(NONE, fold, WIDTH - 1);
        if (sheets.size() >= MOST_SHEETS) {
            throw new IllegalStateException("there are as many sheets as there may be");
        }
        sheets.add(new Sheet(scale, left, low, right, high, fold));
        return sheets.size() - 1;
    }

    public int label(int sheet, int name) throws IndexOutOfBoundsException {
        Sheet asked = requireSheet(sheet);
        requireName(name);
        names.drawLabels(asked, present);
        return present.sideOf(name);
    }

    public int at(int sheet, int x, int y) throws IndexOutOfBoundsException, IllegalArgumentException {
        Sheet asked = requireSheet(sheet);
        requirePlace(x, y);
        names.drawLabels(asked, present);
        return names.labelTaking(placeOf(x, y), 1, present);
    }

    public int print(int sheet, int many)
            throws IndexOutOfBoundsException, IllegalArgumentException, IllegalStateException {
        Sheet asked = requireSheet(sheet);
        requireFrom(1, many, MOST_PRINTED);
        draw(asked);
        int copies = asked.errataAgainst(present) > 0 ? many : asked.copies() + many;
        if (copies > MOST_STOCK) {
            throw new IllegalStateException("the stock would be too large");
        }
        asked.keepPrinted(present, copies);
        return copies;
    }

    public int sell(int sheet, int many)
            throws IndexOutOfBoundsException, IllegalArgumentException, IllegalStateException {
        Sheet asked = requireSheet(sheet);
        requireFrom(1, many, MOST_STOCK);
        if (asked.copies() < many) {
            throw new IllegalStateException("the stock is less");
        }
        asked.takeCopies(many);
        return errataOf(asked);
    }

    public int stock(int sheet) throws IndexOutOfBoundsException {
        return requireSheet(sheet).copies();
    }

    public int errata(int sheet) throws IndexOutOfBoundsException {
        return errataOf(requireSheet(sheet));
    }

    // ---- what the calls above share

    private int sheetsWithErrata() {
        int count = 0;
        for (int s = 0; s < sheets.size(); s++) {
            Sheet sheet = sheets.get(s);
            draw(sheet);
            if (sheet.errataAgainst(present) > 0) {
                count++;
            }
        }
        return count;
    }

    private int errataOf(Sheet sheet) {
        draw(sheet);
        return sheet.errataAgainst(present);
    }

    private void draw(Sheet sheet) {
        names.drawLabels(sheet, present);
        roads.drawRoads(sheet, present);
    }

    private Road requireRoad(int number) {
        if (number < 0 || number >= roads.size()) {
            throw new IndexOutOfBoundsException("no such road");
        }
        return roads.get(number);
    }

    private Name requireName(int number) {
        if (number < 0 || number >= names.size()) {
            throw new IndexOutOfBoundsException("no such name");
        }
        return names.get(number);
    }

    private Sheet requireSheet(int number) {
        if (number < 0 || number >= sheets.size()) {
            throw new IndexOutOfBoundsException("no such sheet");
        }
        return sheets.get(number);
    }

    private static void requireScale(int scale) {
        if (scale < 0 || scale >= SCALES) {
            throw new IndexOutOfBoundsException("no such scale");
        }
    }

    private static void requirePlace(int x, int y) {
        requireFrom(0, x, WIDTH - 1);
        requireFrom(0, y, WIDTH - 1);
    }

    private static void requireRank(int rank) {
        requireFrom(0, rank, TOP_RANK);
    }

    private static void requireFrom(int least, int value, int most) {
        if (value < least || value > most) {
            throw new IllegalArgumentException("an argument is out of range");
        }
    }

    /** Places are held as one number, so that one comparison tells whether two are the same. */
    private static int placeOf(int x, int y) {
        return y * WIDTH + x;
    }

    private static int xOf(int place) {
        return place % WIDTH;
    }

    private static int yOf(int place) {
        return place / WIDTH;
    }

    private static boolean has(int set, int point) {
        return (set >> point & 1) != 0;
    }

    /** A road, or the draft of one: its points in their order, and which of them are left on each scale. */
    private static final class Road {
        private final int[] places = new int[MOST_POINTS];
        private final int[] leftSets = new int[SCALES];
        private int size = 0;
        private int rank = 0;

        int size() {
            return size;
        }

        /** NONE, where there is no such point, is no place: the ends of a road have no neighbour that is in the way. */
        int placeAt(int point) {
            return point >= 0 && point < size && point < places.length ? places[point] : NONE;
        }

        void append(int place) {
            if (size >= 0 && size < places.length) {
                places[size] = place;
                size++;
            }
        }

        void put(int point, int place) {
            if (point >= 0 && point < size && point < places.length) {
                places[point] = place;
            }
        }

        void giveRank(int given) {
            rank = given;
        }

        boolean isShownOn(int scale) {
            return rank >= scale;
        }

        int allPoints() {
            return (1 << size) - 1;
        }

        int leftOn(int scale) {
            return scale >= 0 && scale < leftSets.length ? leftSets[scale] : 0;
        }

        void keepLeft(int scale, int set) {
            if (scale >= 0 && scale < leftSets.length) {
                leftSets[scale] = set;
            }
        }

        boolean hasPointAt(int place, int set) {
            for (int p = 0; p < size; p++) {
                if (has(set, p) && placeAt(p) == place) {
                    return true;
                }
            }
            return false;
        }

        boolean hasPointOn(Sheet sheet, int set) {
            for (int p = 0; p < size; p++) {
                if (has(set, p) && sheet.holds(placeAt(p))) {
                    return true;
                }
            }
            return false;
        }

        /** Twice the area of the triangle of a point, neither the first nor the last, among the points of a set. */
        int triangleOf(int point, int set) {
            int ahead = point - 1;
            while (ahead > 0 && !has(set, ahead)) {
                ahead--;
            }
            int behind = point + 1;
            while (behind < size - 1 && !has(set, behind)) {
                behind++;
            }
            int widthAhead = xOf(placeAt(ahead)) - xOf(placeAt(point));
            int heightAhead = yOf(placeAt(ahead)) - yOf(placeAt(point));
            int widthBehind = xOf(placeAt(behind)) - xOf(placeAt(point));
            int heightBehind = yOf(placeAt(behind)) - yOf(placeAt(point));
            return Math.abs(widthBehind * heightAhead - heightBehind * widthAhead);
        }
    }

    /** The roads, and the generaliser: what is left of each of them on a scale hangs on all the others. */
    private static final class Roads {
        private final ArrayList<Road> list = new ArrayList<>();

        int size() {
            return list.size();
        }

        Road get(int number) {
            return list.get(number);
        }

        void add(Road road) {
            list.add(road);
        }

        /** Every sheet asks for the points left, so they are found once after each change of a road, and kept. */
        void generalise() {
            for (int r = 0; r < list.size(); r++) {
                Road road = list.get(r);
                for (int scale = 0; scale < SCALES; scale++) {
                    road.keepLeft(scale, findLeft(road, scale));
                }
            }
        }

        private int findLeft(Road road, int scale) {
            if (!road.isShownOn(scale)) {
                return 0;
            }
            int set = road.allPoints();
            for (int round = 0; round < MOST_POINTS; round++) {
                int goes = pointThatGoes(road, set, scale);
                if (goes == NONE) {
                    return set;
                }
                set &= ~(1 << goes);
            }
            return set;
        }

        /** The check of the other roads is the dearer one, so only a triangle that is the least so far asks for it. */
        private int pointThatGoes(Road road, int set, int scale) {
            int least = TRIANGLE_BY_SCALE * scale;
            int goes = NONE;
            for (int p = 1; p < road.size() - 1; p++) {
                if (has(set, p)) {
                    int triangle = road.triangleOf(p, set);
                    if (triangle < least && !isMet(road, p, scale)) {
                        least = triangle;
                        goes = p;
                    }
                }
            }
            return goes;
        }

        private boolean isMet(Road road, int point, int scale) {
            int place = road.placeAt(point);
            for (int r = 0; r < list.size(); r++) {
                Road other = list.get(r);
                if (other != road && other.isShownOn(scale) && other.hasPointAt(place, other.allPoints())) {
                    return true;
                }
            }
            return false;
        }

        int pairsMeetingByLeft(int scale) {
            int pairs = 0;
            for (int a = 0; a < list.size(); a++) {
                for (int b = a + 1; b < list.size(); b++) {
                    Road one = list.get(a);
                    Road other = list.get(b);
                    // A road that is not shown has nothing left, and so meets none.
                    if (share(one, one.leftOn(scale), other, other.leftOn(scale))) {
                        pairs++;
                    }
                }
            }
            return pairs;
        }

        int pairsMeetingByAll(int scale) {
            int pairs = 0;
            for (int a = 0; a < list.size(); a++) {
                for (int b = a + 1; b < list.size(); b++) {
                    Road one = list.get(a);
                    Road other = list.get(b);
                    boolean bothShown = one.isShownOn(scale) && other.isShownOn(scale);
                    if (bothShown && share(one, one.allPoints(), other, other.allPoints())) {
                        pairs++;
                    }
                }
            }
            return pairs;
        }

        private static boolean share(Road one, int set, Road other, int otherSet) {
            for (int p = 0; p < one.size(); p++) {
                if (has(set, p) && other.hasPointAt(one.placeAt(p), otherSet)) {
                    return true;
                }
            }
            return false;
        }

        void drawRoads(Sheet sheet, Picture picture) {
            picture.clearRoads();
            for (int r = 0; r < list.size(); r++) {
                Road road = list.get(r);
                int set = road.leftOn(sheet.scale());
                if (road.hasPointOn(sheet, set)) {
                    drawRoad(r, road, set, picture);
                }
            }
        }

        private static void drawRoad(int number, Road road, int set, Picture picture) {
            int drawn = 0;
            for (int p = 0; p < road.size(); p++) {
                if (has(set, p)) {
                    picture.putPoint(number, drawn, road.placeAt(p));
                    drawn++;
                }
            }
        }
    }

    private static final class Name {
        private final int length;
        private final int rank;
        private int x;
        private int y;

        Name(int x, int y, int length, int rank) {
            this.x = x;
            this.y = y;
            this.length = length;
            this.rank = rank;
        }

        int length() {
            return length;
        }

        int rank() {
            return rank;
        }

        int place() {
            return placeOf(x, y);
        }

        void put(int newX, int newY) {
            x = newX;
            y = newY;
        }

        int labelX(int side) {
            if (side == RIGHT) {
                return x + 1;
            }
            return side == LEFT ? x - length : x;
        }

        int labelY(int side) {
            if (side == ABOVE) {
                return y + 1;
            }
            return side == BELOW ? y - 1 : y;
        }
    }

    /** The names, and the giver of labels: which label one of them has hangs on those that come ahead of it. */
    private static final class Names {
        private final ArrayList<Name> list = new ArrayList<>();

        int size() {
            return list.size();
        }

        Name get(int number) {
            return list.get(number);
        }

        void add(Name name) {
            list.add(name);
        }

        void drawLabels(Sheet sheet, Picture picture) {
            picture.clearLabels();
            for (int rank = TOP_RANK; rank >= sheet.scale(); rank--) {
                for (int n = 0; n < list.size(); n++) {
                    Name name = list.get(n);
                    if (name.rank() == rank && sheet.holds(name.place())) {
                        drawLabel(n, name, sheet, picture);
                    }
                }
            }
        }

        private void drawLabel(int number, Name name, Sheet sheet, Picture picture) {
            for (int side = RIGHT; side <= BELOW; side++) {
                int x = name.labelX(side);
                int y = name.labelY(side);
                if (sheet.hasRoomFor(x, y, name.length())) {
                    int start = placeOf(x, y);
                    if (labelTaking(start, name.length(), picture) == NONE) {
                        picture.putLabel(number, side, start);
                        return;
                    }
                }
            }
        }

        /**
         * The name whose label takes one of the places in a row, or NONE. No row of places goes over an edge of the
         * map, so that rows overlap just where their numbers of places do.
         */
        int labelTaking(int start, int length, Picture picture) {
            for (int n = 0; n < list.size(); n++) {
                int taken = picture.startOf(n);
                if (taken != NONE && taken < start + length && start < taken + list.get(n).length()) {
                    return n;
                }
            }
            return NONE;
        }
    }

    /** What a sheet looks like: where the label of each name starts, and the points left of each road on it. */
    private static final class Picture {
        private final int[] starts = new int[MOST_NAMES];
        private final int[] sides = new int[MOST_NAMES];
        private final int[] lines = new int[MOST_ROADS * MOST_POINTS];

        void clearLabels() {
            for (int n = 0; n < starts.length; n++) {
                starts[n] = NONE;
            }
            for (int n = 0; n < sides.length; n++) {
                sides[n] = NONE;
            }
        }

        void clearRoads() {
            for (int i = 0; i < lines.length; i++) {
                lines[i] = NONE;
            }
        }

        void putLabel(int name, int side, int start) {
            if (name >= 0 && name < starts.length && name < sides.length) {
                sides[name] = side;
                starts[name] = start;
            }
        }

        void putPoint(int road, int position, int place) {
            int index = road * MOST_POINTS + position;
            if (index >= 0 && index < lines.length) {
                lines[index] = place;
            }
        }

        int sideOf(int name) {
            return name >= 0 && name < sides.length ? sides[name] : NONE;
        }

        int startOf(int name) {
            return name >= 0 && name < starts.length ? starts[name] : NONE;
        }

        private int pointOf(int road, int position) {
            int index = road * MOST_POINTS + position;
            return index >= 0 && index < lines.length ? lines[index] : NONE;
        }

        /** A name keeps its length, so that two of its labels take the same places if they start at the same one. */
        int differencesFrom(Picture other) {
            int differences = 0;
            for (int n = 0; n < MOST_NAMES; n++) {
                if (startOf(n) != other.startOf(n)) {
                    differences++;
                }
            }
            for (int r = 0; r < MOST_ROADS; r++) {
                if (!hasSameRoad(r, other)) {
                    differences++;
                }
            }
            return differences;
        }

        private boolean hasSameRoad(int road, Picture other) {
            for (int i = 0; i < MOST_POINTS; i++) {
                if (pointOf(road, i) != other.pointOf(road, i)) {
                    return false;
                }
            }
            return true;
        }

        void copyFrom(Picture other) {
            for (int n = 0; n < MOST_NAMES; n++) {
                putLabel(n, other.sideOf(n), other.startOf(n));
            }
            for (int r = 0; r < MOST_ROADS; r++) {
                for (int i = 0; i < MOST_POINTS; i++) {
                    putPoint(r, i, other.pointOf(r, i));
                }
            }
        }
    }

    private static final class Sheet {
        private final int scale;
        private final int leftX;
        private final int lowY;
        private final int rightX;
        private final int highY;
        private final int foldX;
        private final Picture printed = new Picture();
        private boolean wasPrinted = false;
        private int copies = 0;

        Sheet(int scale, int leftX, int lowY, int rightX, int highY, int foldX) {
            this.scale = scale;
            this.leftX = leftX;
            this.lowY = lowY;
            this.rightX = rightX;
            this.highY = highY;
            this.foldX = foldX;
        }

        int scale() {
            return scale;
        }

        int copies() {
            return copies;
        }

        boolean holds(int place) {
            int x = xOf(place);
            int y = yOf(place);
            return x >= leftX && x <= rightX && y >= lowY && y <= highY;
        }

        boolean hasRoomFor(int x, int y, int length) {
            int end = x + length - 1;
            boolean inside = x >= leftX && end <= rightX && y >= lowY && y <= highY;
            boolean folded = foldX >= x && foldX <= end;
            return inside && !folded;
        }

        int errataAgainst(Picture present) {
            return wasPrinted ? printed.differencesFrom(present) : 0;
        }

        void keepPrinted(Picture present, int newCopies) {
            printed.copyFrom(present);
            wasPrinted = true;
            copies = newCopies;
        }

        void takeCopies(int many) {
            copies -= many;
        }
    }
}
