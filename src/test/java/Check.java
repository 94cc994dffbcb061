/** Counts what is right and what is wrong, and tells the wrong. */
final class Check {
    private static int right;
    private static int wrong;
    private static String about = "";

    private Check() {
    }

    interface Call {
        Object run();
    }

    /** What is told from now on is about this sentence. */
    static void about(String sentence) {
        about = sentence + ": ";
    }

    static void due(String what, Object want, Call call) {
        Object got;
        try {
            got = call.run();
        } catch (RuntimeException e) {
            got = "throws " + e.getClass().getName();
        }
        tell(what, want, got);
    }

    /** The very class is due: an exception of the machine's own would be of a class below it. */
    static void refused(String what, Class<? extends RuntimeException> want, Call call) {
        due(what, "throws " + want.getName(), call);
    }

    static void tell(String what, Object want, Object got) {
        if (want.equals(got)) {
            right++;
        } else {
            wrong++;
            System.out.println(about + what + " answered " + got + ", due is " + want);
        }
    }

    static int told() {
        return right + wrong;
    }

    static void end(String name) {
        System.out.println(name + ": " + right + " right, " + wrong + " wrong");
        if (wrong != 0) {
            System.exit(1);
        }
    }
}
