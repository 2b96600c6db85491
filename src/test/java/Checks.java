/** Counts and prints what isn't as it is due. */
final class Checks {
    static final String NO_SUCH = "NoSuchElementException";
    static final String BAD_ARGUMENT = "IllegalArgumentException";
    static final String BAD_STATE = "IllegalStateException";

    private int wrong = 0;
    private int made = 0;
    private String chapter = "";

    interface Call {
        Object answer();
    }

    void chapter(String name) {
        chapter = name;
    }

    /** The answer, or the name of what the call throws behind "throws ". */
    static String told(Call call) {
        try {
            return String.valueOf(call.answer());
        } catch (RuntimeException e) {
            return "throws " + e.getClass().getSimpleName();
        }
    }

    void due(String name, Object want, Call call) {
        made++;
        String got = told(call);
        if (!got.equals(String.valueOf(want))) {
            wrong++;
            System.out.println(chapter + ": " + name + " answered " + got + ", due is " + want);
        }
    }

    void dueThrow(String name, String exception, Call call) {
        due(name, "throws " + exception, call);
    }

    void end(String test) {
        System.out.println(test + ": " + made + " checks, " + wrong + " wrong");
        if (wrong > 0) {
            System.exit(1);
        }
    }
}
