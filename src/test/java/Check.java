import java.util.Objects;

/** Compares answers with those that are due, prints each that differs, and ends with exit code 1 if one did. */
final class Check {
    static final String ARGUMENT = "throws.IllegalArgumentException";
    static final String STATE = "throws.IllegalStateException";
    static final String ARITHMETIC = "throws.ArithmeticException";

    interface Call {
        Object answer();
    }

    private int made = 0;
    private int wrong = 0;
    private int sentences = 0;
    private String ahead = "";

    /** The test of one sentence of the document; a test that looks at nothing is no test. */
    void sentence(String where, String words, Runnable test) {
        int madeBefore = made;
        sentences++;
        ahead = where + " '" + words + "': ";
        test.run();
        if (made == madeBefore) {
            same("answers looked at", "some", "none");
        }
        ahead = "";
    }

    /** The answer as a text; an exception by its exact class, so that the machine's own are never taken for it. */
    static String told(Call call) {
        try {
            return String.valueOf(call.answer());
        } catch (RuntimeException e) {
            // The machine throws the same class for a division by 0, but with a text of its own.
            String thrower = "/ by zero".equals(e.getMessage()) ? "machine." : "throws.";
            return thrower + e.getClass().getSimpleName();
        }
    }

    void due(String what, Object want, Call call) {
        same(what, String.valueOf(want), told(call));
    }

    void argument(String what, Call call) {
        due(what, ARGUMENT, call);
    }

    void state(String what, Call call) {
        due(what, STATE, call);
    }

    void arithmetic(String what, Call call) {
        due(what, ARITHMETIC, call);
    }

    void same(String what, Object want, Object got) {
        made++;
        if (!Objects.equals(want, got)) {
            wrong++;
            System.out.println(ahead + what + " answered " + got + ", due is " + want);
        }
    }

    void end() {
        String of = sentences == 0 ? "" : " for " + sentences + " sentences";
        System.out.println(made + " answers looked at" + of + ", " + wrong + " not as due");
        if (wrong != 0 || made == 0) {
            System.exit(1);
        }
    }
}
