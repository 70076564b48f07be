import java.lang.reflect.Constructor;
import java.lang.reflect.Field;
import java.lang.reflect.Method;
import java.lang.reflect.Modifier;
import java.util.Arrays;
import java.util.TreeSet;

/**
 * The public face: its constants, its constructor, its methods with what they throw, and no other member. The program's
 * text, for the lines between the calls, is given to it by .ci/run.
 */
final class FaceTests {
    private static final String INDEX = "IndexOutOfBoundsException";
    private static final String ARGUMENT = "IllegalArgumentException";
    private static final String STATE = "IllegalStateException";

    private FaceTests() {
    }

    public static void main(String[] args) {
        constantsAreAsWritten();
        membersAreAsWritten();
        classesInsideAreHidden();
        callsStandUnderTheirLines(args.length > 1 ? args[1] : "");
        Check.end();
    }

    private static void constantsAreAsWritten() {
        Check.sentence("NONE = -1: There is none");
        Check.due("NONE", SheetMaker.NONE, -1);
        Check.sentence("RIGHT = 0, LEFT = 1, ABOVE = 2, BELOW = 3: Sides of labels");
        Check.due("RIGHT", SheetMaker.RIGHT, 0);
        Check.due("LEFT", SheetMaker.LEFT, 1);
        Check.due("ABOVE", SheetMaker.ABOVE, 2);
        Check.due("BELOW", SheetMaker.BELOW, 3);
        Check.sentence("The public face");
        TreeSet<String> fields = new TreeSet<>();
        for (Field field : SheetMaker.class.getDeclaredFields()) {
            int modifiers = field.getModifiers();
            if (!Modifier.isPrivate(modifiers)) {
                fields.add(Modifier.toString(modifiers) + " " + field.getType().getName() + " " + field.getName());
            }
            if (Modifier.isStatic(modifiers)) {
                Check.due(field.getName() + " is final", Modifier.isFinal(modifiers), true);
            }
        }
        TreeSet<String> due = new TreeSet<>();
        for (String name : new String[] {"NONE", "RIGHT", "LEFT", "ABOVE", "BELOW"}) {
            due.add("public static final int " + name);
        }
        Check.due("fields that are not private", fields, due);
    }

    private static String method(String name, int parameters, String... throwing) {
        return name + " " + parameters + " " + Arrays.toString(throwing);
    }

    private static TreeSet<String> dueMethods() {
        return new TreeSet<>(Arrays.asList(
            method("draft", 2, ARGUMENT, STATE), method("road", 1, ARGUMENT, STATE),
            method("move", 4, INDEX, ARGUMENT, STATE), method("name", 4, ARGUMENT, STATE),
            method("shift", 3, INDEX, ARGUMENT), method("points", 2, INDEX), method("left", 2, INDEX),
            method("meetings", 1, INDEX), method("meetingsByPairs", 1, INDEX),
            method("sheet", 6, INDEX, ARGUMENT, STATE), method("label", 2, INDEX),
            method("at", 3, INDEX, ARGUMENT), method("print", 2, INDEX, ARGUMENT, STATE),
            method("sell", 2, INDEX, ARGUMENT, STATE), method("stock", 1, INDEX), method("errata", 1, INDEX)));
    }

    private static void membersAreAsWritten() {
        Check.due("the class", Modifier.toString(SheetMaker.class.getModifiers()), "public final");
        Constructor<?>[] constructors = SheetMaker.class.getDeclaredConstructors();
        Check.due("constructors", constructors.length, 1);
        Check.due("the constructor", constructors[0].toString(), "public SheetMaker()");
        TreeSet<String> methods = new TreeSet<>();
        for (Method one : SheetMaker.class.getDeclaredMethods()) {
            if (Modifier.isPrivate(one.getModifiers())) {
                continue;
            }
            String[] throwing = new String[one.getExceptionTypes().length];
            for (int i = 0; i < throwing.length; i++) {
                throwing[i] = one.getExceptionTypes()[i].getSimpleName();
            }
            methods.add(method(one.getName(), one.getParameterCount(), throwing));
            Check.due("return type of " + one.getName(), one.getReturnType().getName(), "int");
            Check.due("modifiers of " + one.getName(), Modifier.toString(one.getModifiers()), "public");
            for (Class<?> parameter : one.getParameterTypes()) {
                Check.due("a parameter of " + one.getName(), parameter.getName(), "int");
            }
        }
        Check.due("methods that are not private", methods, dueMethods());
    }

    private static void classesInsideAreHidden() {
        for (Class<?> inside : SheetMaker.class.getDeclaredClasses()) {
            int modifiers = inside.getModifiers();
            Check.due(inside.getName() + " is static", Modifier.isStatic(modifiers), true);
            Check.due(inside.getName() + " is hidden", Modifier.isPublic(modifiers) || Modifier.isProtected(modifiers),
                false);
        }
    }

    private static void callsStandUnderTheirLines(String program) {
        Check.sentence("Ahead of the calls draft, road, move, name, shift the interface says: ---- roads and names. "
            + "Ahead of the calls points, left, meetings, meetingsByPairs the interface says: ---- scales. "
            + "Ahead of the calls sheet, label, at, print, sell, stock, errata the interface says: ---- sheets");
        String[] lines = {"// ---- roads and names\n", "int draft(", "int road(", "int move(", "int name(",
            "int shift(", "// ---- scales\n", "int points(", "int left(", "int meetings(", "int meetingsByPairs(",
            "// ---- sheets\n", "int sheet(", "int label(", "int at(", "int print(", "int sell(", "int stock(",
            "int errata("};
        int from = 0;
        for (String line : lines) {
            String written = line.startsWith("int ") ? "    public " + line : "    " + line;
            int found = program.indexOf(written, from);
            Check.due("'" + line.trim() + "' stands in its order in the program's text", found >= 0, true);
            from = Math.max(from, found);
        }
    }
}
