/** Counts the answers that are not as due, and ends a test's main with exit code 1 if there was one. */
final class Check {
    private static int wrong = 0;
    private static int asked = 0;
    private static String sentence = "";

    private Check() {
    }

    interface Call {
        Object answer();
    }

    interface Act {
        void run();
    }

    /** What a call answers, or "throws." and the name of the exception. */
    static String answerOf(Call call) {
        try {
            return String.valueOf(call.answer());
        } catch (RuntimeException e) {
            return "throws." + e.getClass().getSimpleName();
        }
    }

    /** The words of the document that the answers from now on are due by. */
    static void sentence(String words) {
        sentence = "\"" + words + "\": ";
    }

    static void due(String what, Object want, Call call) {
        asked++;
        String got = answerOf(call);
        if (!got.equals(String.valueOf(want))) {
            wrong++;
            System.out.println(sentence + what + " answered " + got + ", due is " + want);
        }
    }

    static void fine(String what, Act act) {
        due(what, "nothing", asCall(act));
    }

    static void badIndex(String what, Act act) {
        due(what, "throws.IndexOutOfBoundsException", asCall(act));
    }

    static void badArgument(String what, Act act) {
        due(what, "throws.IllegalArgumentException", asCall(act));
    }

    static void badState(String what, Act act) {
        due(what, "throws.IllegalStateException", asCall(act));
    }

    static int wrongSoFar() {
        return wrong;
    }

    static void end() {
        System.out.println(wrong == 0 ? asked + " answers, all as due" : wrong + " of " + asked + " answers are not as due");
        if (wrong != 0) {
            System.exit(1);
        }
    }

    private static Call asCall(Act act) {
        return () -> {
            act.run();
            return "nothing";
        };
    }
}
