import java.util.ArrayList;
import java.util.List;

/**
 * The calls that README.md gives as examples, with the answers that it names. README.md's text is given to it by
 * .ci/run, so that neither can change without the other.
 */
final class ReadmeTests {
    private static final List<String> made = new ArrayList<>();

    private ReadmeTests() {
    }

    public static void main(String[] args) {
        Check.sentence("README.md's example");
        example();
        String readme = args.length > 0 ? args[0] : "";
        Check.due("the examples in README.md's text", String.join("\n", examples(readme)), String.join("\n", made));
        Check.end();
    }

    private static void answers(String line, int answer, int due) {
        Check.due(line, answer, due);
        made.add(line + " // " + due);
    }

    private static void refuses(String line, Check.Call call, Class<? extends RuntimeException> due) {
        Check.dueThrow(line, due, call);
        made.add(line + " // " + due.getSimpleName());
    }

    private static void example() {
        made.add("SheetMaker maker = new SheetMaker();");
        SheetMaker maker = new SheetMaker();
        answers("maker.draft(0, 0);", maker.draft(0, 0), 1);
        answers("maker.draft(10, 1);", maker.draft(10, 1), 2);
        answers("maker.draft(20, 0);", maker.draft(20, 0), 3);
        int road = maker.road(3);
        answers("int road = maker.road(3);", road, 0);
        answers("maker.draft(10, 1);", maker.draft(10, 1), 1);
        answers("maker.draft(10, 30);", maker.draft(10, 30), 2);
        int lane = maker.road(1);
        answers("int lane = maker.road(1);", lane, 1);

        answers("maker.left(road, 1);", maker.left(road, 1), 7);
        answers("maker.left(road, 2);", maker.left(road, 2), 5);
        answers("maker.points(road, 2);", maker.points(road, 2), 2);
        answers("maker.points(lane, 2);", maker.points(lane, 2), 0);
        answers("maker.meetings(1);", maker.meetings(1), 1);
        answers("maker.meetingsByPairs(1);", maker.meetingsByPairs(1), 1);

        int hill = maker.name(7, 5, 3, 1);
        answers("int hill = maker.name(7, 5, 3, 1);", hill, 0);
        int town = maker.name(5, 5, 4, 2);
        answers("int town = maker.name(5, 5, 4, 2);", town, 1);
        int sheet = maker.sheet(1, 0, 0, 39, 39, SheetMaker.NONE);
        answers("int sheet = maker.sheet(1, 0, 0, 39, 39, SheetMaker.NONE);", sheet, 0);
        answers("maker.label(sheet, town);", maker.label(sheet, town), 0);
        answers("maker.label(sheet, hill);", maker.label(sheet, hill), 2);
        answers("maker.at(sheet, 9, 5);", maker.at(sheet, 9, 5), 1);
        answers("maker.at(sheet, 10, 5);", maker.at(sheet, 10, 5), -1);

        answers("maker.print(sheet, 50);", maker.print(sheet, 50), 50);
        answers("maker.errata(sheet);", maker.errata(sheet), 0);
        answers("maker.shift(town, 25, 5);", maker.shift(town, 25, 5), 1);
        answers("maker.errata(sheet);", maker.errata(sheet), 2);
        answers("maker.move(lane, 1, 12, 30);", maker.move(lane, 1, 12, 30), 1);
        answers("maker.sell(sheet, 10);", maker.sell(sheet, 10), 3);
        answers("maker.stock(sheet);", maker.stock(sheet), 40);
        answers("maker.print(sheet, 20);", maker.print(sheet, 20), 20);
        answers("maker.errata(sheet);", maker.errata(sheet), 0);

        refuses("maker.points(2, 0);", () -> maker.points(2, 0), IndexOutOfBoundsException.class);
        refuses("maker.draft(40, 0);", () -> maker.draft(40, 0), IllegalArgumentException.class);
        refuses("maker.road(0);", () -> maker.road(0), IllegalStateException.class);
        refuses("maker.sell(sheet, 21);", () -> maker.sell(sheet, 21), IllegalStateException.class);
    }

    /** The lines of README.md's blocks of Java, each with the answer alone behind it. */
    private static List<String> examples(String readme) {
        List<String> lines = new ArrayList<>();
        boolean inJava = false;
        for (String line : readme.split("\n")) {
            if (line.startsWith("```")) {
                inJava = line.equals("```java");
            } else if (inJava && !line.isBlank() && !line.startsWith("//")) {
                lines.add(withAnswerAlone(line));
            }
        }
        return lines;
    }

    private static String withAnswerAlone(String line) {
        int comment = line.indexOf("//");
        if (comment < 0) {
            return line;
        }
        String answer = line.substring(comment + 2).split(":")[0];
        return line.substring(0, comment).trim() + " // " + answer.trim();
    }
}
