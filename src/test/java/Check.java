/** What every test here shares: it counts and prints the answers that are not the ones that are due. */
final class Check {
    interface Call {
        int answer();
    }

    static final Class<? extends RuntimeException> NO_SUCH = IndexOutOfBoundsException.class;
    static final Class<? extends RuntimeException> OUT_OF_RANGE = IllegalArgumentException.class;
    static final Class<? extends RuntimeException> REFUSED = IllegalStateException.class;

    private static int checks = 0;
    private static int wrong = 0;
    private static String sentence = "";

    private Check() {
    }

    /** The document's words that the checks from here on hold to; they are printed with what is wrong. */
    static void sentence(String words) {
        sentence = " (" + words + ")";
    }

    static void due(String what, Object got, Object want) {
        checks++;
        if (!got.equals(want)) {
            wrong++;
            System.out.println(what + " answered " + got + ", due is " + want + sentence);
        }
    }

    /** The very class is due, and thrown by the program: the library's lists throw one of these by themselves. */
    static void dueThrow(String what, Class<? extends RuntimeException> kind, Call call) {
        due(what, outcome(call), kind.getName());
    }

    static Object outcome(Call call) {
        try {
            return call.answer();
        } catch (RuntimeException e) {
            String thrower = e.getStackTrace()[0].getClassName();
            boolean ownThrow = thrower.startsWith("SheetMaker") || thrower.startsWith("Model");
            return e.getClass().getName() + (ownThrow ? "" : " thrown by " + thrower);
        }
    }

    static boolean hasFailed() {
        return wrong > 0;
    }

    static void end() {
        System.out.println(checks + " checks, " + wrong + " wrong");
        System.exit(wrong == 0 ? 0 : 1);
    }
}
