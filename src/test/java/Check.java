/** Counts and prints the answers that are not as due. */
final class Check {
    interface Call {
        Object answer();
    }

    private int wrong = 0;
    private String place = "";

    /** Names what is looked at from here on, for the printed lines. */
    void at(String name) {
        place = name;
    }

    void due(String what, Object got, Object want) {
        if (!want.equals(got)) {
            wrong++;
            System.out.println(place + ": " + what + " answered " + got + ", due is " + want);
        }
    }

    void state(String what, Call call) {
        due(what, answer(call), "throws.IllegalStateException");
    }

    void argument(String what, Call call) {
        due(what, answer(call), "throws.IllegalArgumentException");
    }

    /** An exception is an answer too, so that two programs can be held against each other. */
    static Object answer(Call call) {
        try {
            return call.answer();
        } catch (RuntimeException e) {
            return "throws." + e.getClass().getSimpleName();
        }
    }

    void end() {
        if (wrong > 0) {
            System.out.println(wrong + " answers are not as due");
            System.exit(1);
        }
    }
}
