import java.util.ArrayList;
import java.util.HashMap;
import java.util.LinkedHashMap;
import java.util.List;
import java.util.Map;
import java.util.TreeMap;
import java.util.TreeSet;

/**
 * The document told a second time, as near to its words as can be and without regard to what it costs, for
 * ModelTests to set against the program. Nothing is kept but what was put in: all else is found anew for each answer.
 */
final class Model {
    private record Place(int x, int y) {
    }

    private record Extent(int scale, int left, int low, int right, int high, int fold) {
        boolean includes(Place place) {
            return left <= place.x() && place.x() <= right && low <= place.y() && place.y() <= high;
        }
    }

    private record Print(Map<Integer, List<Place>> labels, Map<Integer, List<Place>> roads) {
    }

    private final List<Place> draft = new ArrayList<>();
    private final List<List<Place>> roads = new ArrayList<>();
    private final List<Integer> roadRanks = new ArrayList<>();
    private final List<Place> names = new ArrayList<>();
    private final List<Integer> nameLengths = new ArrayList<>();
    private final List<Integer> nameRanks = new ArrayList<>();
    private final List<Extent> sheets = new ArrayList<>();
    private final Map<Integer, Print> prints = new HashMap<>();
    private final Map<Integer, Integer> stocks = new HashMap<>();

    private static void index(boolean exists) {
        if (!exists) {
            throw new IndexOutOfBoundsException();
        }
    }

    private static void argument(boolean inRange) {
        if (!inRange) {
            throw new IllegalArgumentException();
        }
    }

    private static void state(boolean allows) {
        if (!allows) {
            throw new IllegalStateException();
        }
    }

    private static boolean within(int least, int value, int most) {
        return least <= value && value <= most;
    }

    private static boolean onMap(int x, int y) {
        return within(0, x, 39) && within(0, y, 39);
    }

    int draft(int x, int y) {
        argument(onMap(x, y));
        state(draft.size() < 8);
        state(draft.isEmpty() || !draft.get(draft.size() - 1).equals(new Place(x, y)));
        draft.add(new Place(x, y));
        return draft.size();
    }

    int road(int rank) {
        argument(within(0, rank, 3));
        state(draft.size() >= 2 && roads.size() < 8);
        roads.add(new ArrayList<>(draft));
        roadRanks.add(rank);
        draft.clear();
        return roads.size() - 1;
    }

    int move(int road, int point, int x, int y) {
        index(within(0, road, roads.size() - 1));
        List<Place> way = roads.get(road);
        index(within(0, point, way.size() - 1));
        argument(onMap(x, y));
        Place to = new Place(x, y);
        state(point == 0 || !way.get(point - 1).equals(to));
        state(point == way.size() - 1 || !way.get(point + 1).equals(to));
        way.set(point, to);
        return sheetsWithErrata();
    }

    int name(int x, int y, int length, int rank) {
        argument(onMap(x, y) && within(1, length, 8) && within(0, rank, 3));
        state(names.size() < 10);
        names.add(new Place(x, y));
        nameLengths.add(length);
        nameRanks.add(rank);
        return names.size() - 1;
    }

    int shift(int name, int x, int y) {
        index(within(0, name, names.size() - 1));
        argument(onMap(x, y));
        names.set(name, new Place(x, y));
        return sheetsWithErrata();
    }

    int points(int road, int scale) {
        return pointsLeft(road, scale).size();
    }

    int left(int road, int scale) {
        int set = 0;
        for (int point : pointsLeft(road, scale)) {
            set += (int) Math.pow(2, point);
        }
        return set;
    }

    private boolean shows(int scale, int road) {
        return roadRanks.get(road) >= scale;
    }

    private List<Integer> pointsLeft(int road, int scale) {
        index(within(0, road, roads.size() - 1) && within(0, scale, 3));
        List<Integer> kept = new ArrayList<>();
        if (!shows(scale, road)) {
            return kept;
        }
        for (int point = 0; point < roads.get(road).size(); point++) {
            kept.add(point);
        }
        while (true) {
            // By triangle first and number second, so that the first entry is the one that goes.
            TreeMap<Integer, TreeSet<Integer>> mayGo = new TreeMap<>();
            for (int i = 1; i < kept.size() - 1; i++) {
                int triangle = triangle(road, kept.get(i - 1), kept.get(i), kept.get(i + 1));
                if (triangle < 20 * scale && !hasOtherRoad(road, roads.get(road).get(kept.get(i)), scale)) {
                    mayGo.computeIfAbsent(triangle, t -> new TreeSet<>()).add(kept.get(i));
                }
            }
            if (mayGo.isEmpty()) {
                return kept;
            }
            kept.remove(mayGo.firstEntry().getValue().first());
        }
    }

    /** By the formula of the area from the three corners, which is not the document's but has the same amount. */
    private int triangle(int road, int ahead, int point, int behind) {
        Place a = roads.get(road).get(ahead);
        Place b = roads.get(road).get(point);
        Place c = roads.get(road).get(behind);
        int twice = a.x() * (b.y() - c.y()) + b.x() * (c.y() - a.y()) + c.x() * (a.y() - b.y());
        return twice < 0 ? -twice : twice;
    }

    private boolean hasOtherRoad(int road, Place place, int scale) {
        for (int other = 0; other < roads.size(); other++) {
            if (other != road && shows(scale, other) && roads.get(other).contains(place)) {
                return true;
            }
        }
        return false;
    }

    private List<Place> placesLeft(int road, int scale) {
        List<Place> places = new ArrayList<>();
        for (int point : pointsLeft(road, scale)) {
            places.add(roads.get(road).get(point));
        }
        return places;
    }

    int meetings(int scale) {
        index(within(0, scale, 3));
        int pairs = 0;
        for (int b = 0; b < roads.size(); b++) {
            for (int a = 0; a < b; a++) {
                List<Place> common = placesLeft(a, scale);
                common.retainAll(placesLeft(b, scale));
                pairs += common.isEmpty() ? 0 : 1;
            }
        }
        return pairs;
    }

    int meetingsByPairs(int scale) {
        index(within(0, scale, 3));
        int pairs = 0;
        for (int b = 0; b < roads.size(); b++) {
            for (int a = 0; a < b; a++) {
                List<Place> common = new ArrayList<>(roads.get(a));
                common.retainAll(roads.get(b));
                pairs += shows(scale, a) && shows(scale, b) && !common.isEmpty() ? 1 : 0;
            }
        }
        return pairs;
    }

    int sheet(int scale, int left, int low, int right, int high, int fold) {
        index(within(0, scale, 3));
        argument(onMap(left, low) && within(left, right, 39) && within(low, high, 39) && within(-1, fold, 39));
        state(sheets.size() < 6);
        sheets.add(new Extent(scale, left, low, right, high, fold));
        stocks.put(sheets.size() - 1, 0);
        return sheets.size() - 1;
    }

    private static List<Place> labelPlaces(Place name, int length, int side) {
        List<Place> places = new ArrayList<>();
        for (int i = 0; i < length; i++) {
            switch (side) {
                case SheetMaker.RIGHT -> places.add(new Place(name.x() + 1 + i, name.y()));
                case SheetMaker.LEFT -> places.add(0, new Place(name.x() - 1 - i, name.y()));
                case SheetMaker.ABOVE -> places.add(new Place(name.x() + i, name.y() + 1));
                default -> places.add(new Place(name.x() + i, name.y() - 1));
            }
        }
        return places;
    }

    private Map<Integer, Integer> sides(Extent sheet) {
        Map<Integer, Integer> given = new LinkedHashMap<>();
        List<Place> taken = new ArrayList<>();
        for (int rank = 3; rank >= 0; rank--) {
            for (int name = 0; name < names.size(); name++) {
                boolean shown = nameRanks.get(name) >= sheet.scale();
                if (nameRanks.get(name) == rank && shown && sheet.includes(names.get(name))) {
                    giveLabel(sheet, name, given, taken);
                }
            }
        }
        return given;
    }

    private void giveLabel(Extent sheet, int name, Map<Integer, Integer> given, List<Place> taken) {
        for (int side = 0; side < 4; side++) {
            List<Place> places = labelPlaces(names.get(name), nameLengths.get(name), side);
            boolean free = true;
            for (Place place : places) {
                free = free && sheet.includes(place) && place.x() != sheet.fold() && !taken.contains(place);
            }
            if (free) {
                given.put(name, side);
                taken.addAll(places);
                return;
            }
        }
    }

    int label(int sheet, int name) {
        index(within(0, sheet, sheets.size() - 1) && within(0, name, names.size() - 1));
        return sides(sheets.get(sheet)).getOrDefault(name, -1);
    }

    private Print now(Extent sheet) {
        Map<Integer, List<Place>> labels = new HashMap<>();
        sides(sheet).forEach((name, side) ->
            labels.put(name, labelPlaces(names.get(name), nameLengths.get(name), side)));
        Map<Integer, List<Place>> ways = new HashMap<>();
        for (int road = 0; road < roads.size(); road++) {
            List<Place> places = placesLeft(road, sheet.scale());
            if (places.stream().anyMatch(sheet::includes)) {
                ways.put(road, places);
            }
        }
        return new Print(labels, ways);
    }

    int at(int sheet, int x, int y) {
        index(within(0, sheet, sheets.size() - 1));
        argument(onMap(x, y));
        for (Map.Entry<Integer, List<Place>> label : now(sheets.get(sheet)).labels().entrySet()) {
            if (label.getValue().contains(new Place(x, y))) {
                return label.getKey();
            }
        }
        return -1;
    }

    int print(int sheet, int many) {
        index(within(0, sheet, sheets.size() - 1));
        argument(within(1, many, 100));
        int old = errata(sheet) > 0 ? 0 : stocks.get(sheet);
        state(old + many <= 1000);
        prints.put(sheet, now(sheets.get(sheet)));
        stocks.put(sheet, old + many);
        return stock(sheet);
    }

    int sell(int sheet, int many) {
        index(within(0, sheet, sheets.size() - 1));
        argument(within(1, many, 1000));
        state(stocks.get(sheet) >= many);
        stocks.put(sheet, stocks.get(sheet) - many);
        return errata(sheet);
    }

    int stock(int sheet) {
        index(within(0, sheet, sheets.size() - 1));
        return stocks.get(sheet);
    }

    int errata(int sheet) {
        index(within(0, sheet, sheets.size() - 1));
        Print then = prints.get(sheet);
        if (then == null) {
            return 0;
        }
        Print now = now(sheets.get(sheet));
        return changes(then.labels(), now.labels()) + changes(then.roads(), now.roads());
    }

    private static int changes(Map<Integer, List<Place>> then, Map<Integer, List<Place>> now) {
        TreeSet<Integer> all = new TreeSet<>(then.keySet());
        all.addAll(now.keySet());
        int count = 0;
        for (int number : all) {
            count += then.getOrDefault(number, List.of()).equals(now.getOrDefault(number, List.of())) ? 0 : 1;
        }
        return count;
    }

    private int sheetsWithErrata() {
        int count = 0;
        for (int sheet = 0; sheet < sheets.size(); sheet++) {
            count += errata(sheet) > 0 ? 1 : 0;
        }
        return count;
    }
}
