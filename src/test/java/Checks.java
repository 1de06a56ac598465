/** What the tests have in common: answers that are due, exceptions that are due, a last word. */
final class Checks {
    private static int made = 0;
    private static int wrong = 0;

    private Checks() {
    }

    interface Call {
        Object answer();
    }

    static void due(String call, Call made, Object want) {
        String got = outcome(made);
        compare(call, got, String.valueOf(want));
    }

    static void raises(String call, Call made, Class<? extends RuntimeException> want) {
        compare(call, outcome(made), "throws " + want.getSimpleName());
    }

    static void compare(String call, String got, String want) {
        made++;
        if (!got.equals(want)) {
            wrong++;
            System.out.println(call + " answered " + got + ", due is " + want);
        }
    }

    /** The answer, or the exception's name: one that the machine threw never has the due name. */
    static String outcome(Call call) {
        try {
            return String.valueOf(call.answer());
        } catch (RuntimeException e) {
            boolean byMachine = e.getMessage() == null || e.getMessage().startsWith("Index ")
                    || e.getMessage().startsWith("Cannot ") || e.getMessage().startsWith("/ by");
            return (byMachine ? "throws by the machine " : "throws ") + e.getClass().getSimpleName();
        }
    }

    static String peak(RafterPlaces roof) {
        return roof.peak(0) + "/" + roof.peak(1);
    }

    static String ridge(RafterPlaces roof) {
        StringBuilder text = new StringBuilder();
        for (int what = 0; what < 4; what++) {
            text.append(what == 0 ? "" : " ");
            text.append(roof.ridge(what, 0)).append('/').append(roof.ridge(what, 1));
        }
        return text.toString();
    }

    static String area(RafterPlaces roof, int side) {
        return outcome(() -> roof.area(side, 0) + "/" + roof.area(side, 1));
    }

    static String hip(RafterPlaces roof, int k) {
        return outcome(() -> roof.hip(k, 0, 0) + "/" + roof.hip(k, 0, 1)
                + " " + roof.hip(k, 1, 0) + "/" + roof.hip(k, 1, 1));
    }

    static String end(RafterPlaces roof, int side, long t) {
        return outcome(() -> roof.end(side, t, 0) + "/" + roof.end(side, t, 1));
    }

    static String tangent(RafterPlaces roof, int side, long t, int cut) {
        return outcome(() -> roof.tangent(side, t, cut, 0) + "/" + roof.tangent(side, t, cut, 1));
    }

    static String mouth(RafterPlaces roof, int side, long depth) {
        return outcome(() -> roof.mouth(side, depth, 0) + "/" + roof.mouth(side, depth, 1));
    }

    static String place(RafterPlaces roof, long x, long y) {
        return outcome(() -> roof.place(x, y, 0) + "/" + roof.place(x, y, 1));
    }

    /** Enough answers (some fifty calls) to tell two roofs with another outline or side apart. */
    static String state(RafterPlaces roof) {
        StringBuilder text = new StringBuilder(peak(roof)).append(" ridge ").append(ridge(roof));
        for (int side = 0; side < 4; side++) {
            int at = side;
            text.append(" side ").append(side).append(": ").append(area(roof, side));
            text.append(" mouth ").append(mouth(roof, side, 1));
            text.append(" rafters ").append(outcome(() -> roof.rafter(at, 1)));
        }
        return text.toString();
    }

    static int made() {
        return made;
    }

    static int wrong() {
        return wrong;
    }

    static void finish() {
        System.out.println(made + " checks, " + wrong + " wrong");
        if (wrong != 0 || made == 0) {
            System.exit(1);
        }
    }
}
