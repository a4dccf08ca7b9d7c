import java.util.NoSuchElementException;

/** Counts and prints what is not as due, with the sentence of the document that it is against. */
final class Check {
    private static int wrong = 0;
    private static String sentence = "";

    private Check() {
    }

    /** The checks from here on are for these words, which stand under where in ../shared/DOC.md (or in the file it names). */
    static void of(String where, String words) {
        sentence = where + " '" + words + "': ";
    }

    static void same(String what, Object got, Object due) {
        if (!due.equals(got)) {
            wrong++;
            System.out.println(sentence + what + ": " + got + ", due is " + due);
        }
    }

    static void throwsArgument(String what, Runnable call) {
        same(what, thrownBy(call), IllegalArgumentException.class);
    }

    static void throwsState(String what, Runnable call) {
        same(what, thrownBy(call), IllegalStateException.class);
    }

    static void throwsNoSuch(String what, Runnable call) {
        same(what, thrownBy(call), NoSuchElementException.class);
    }

    private static Object thrownBy(Runnable call) {
        try {
            call.run();
        } catch (RuntimeException e) {
            return e.getClass();
        }
        return "nothing thrown";
    }

    /** Runs the tests, one after the other; one that throws what it should not is wrong, and the next goes on. */
    static void run(Runnable... tests) {
        for (Runnable test : tests) {
            sentence = "";
            try {
                test.run();
            } catch (RuntimeException e) {
                same("thrown", e, "nothing thrown");
            }
            same("a test names its sentence", !sentence.isEmpty(), true);
        }
        end();
    }

    private static void end() {
        System.out.println(wrong == 0 ? "all is as due" : wrong + " are not as due");
        if (wrong != 0) {
            System.exit(1);
        }
    }
}
