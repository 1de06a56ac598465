import java.util.ArrayList;
import java.util.List;

/**
 * Calls written as text and tried on a new roof each time: so no check leans on another one, no
 * roof is used too long, and a wrong answer is told with all that led to it.
 */
final class Calls {
    static final String INDEX = "throws ArrayIndexOutOfBoundsException";
    static final String STATE = "throws IllegalStateException";
    static final String ARGUMENT = "throws IllegalArgumentException";

    private final List<String> before;

    private Calls(List<String> before) {
        this.before = before;
    }

    static Calls after(String... before) {
        return new Calls(List.of(before));
    }

    Calls then(String... more) {
        List<String> all = new ArrayList<>(before);
        all.addAll(List.of(more));
        return new Calls(all);
    }

    /** Every side but one is a gable. */
    Calls thenOnly(int kept) {
        Calls made = this;
        for (int side = 0; side < 4; side++) {
            made = side == kept ? made : made.then("gable(" + side + ")");
        }
        return made;
    }

    /** Where an exception is due, the call may have changed nothing either. */
    void due(String call, Object want) {
        RafterPlaces roof = roof();
        Checks.compare(told(call), outcome(roof, call), String.valueOf(want));
        if (String.valueOf(want).startsWith("throws")) {
            Checks.compare(told(call) + ", the roof then", Checks.state(roof), state());
        }
    }

    /** A call with the word part in it: its numerator and its denominator, as 3/4. */
    void fraction(String call, String want) {
        Checks.compare(told(call), fraction(call), want);
    }

    String fraction(String call) {
        return outcome(roof(), call.replace("part", "0")) + "/"
                + outcome(roof(), call.replace("part", "1"));
    }

    /** A call with a ? in it: what is due with each of the numbers in its place. */
    void dueForEach(String call, long[] numbers, Object want) {
        for (long number : numbers) {
            due(call.replace("?", String.valueOf(number)), want);
        }
    }

    String outcome(String call) {
        return outcome(roof(), call);
    }

    String state() {
        return Checks.state(roof());
    }

    private String told(String call) {
        return "after " + before + ": " + call;
    }

    private RafterPlaces roof() {
        RafterPlaces roof = new RafterPlaces();
        for (String call : before) {
            String got = outcome(roof, call);
            if (got.startsWith("throws")) {
                Checks.compare("of " + before + ": " + call, got, "an answer");
            }
        }
        return roof;
    }

    static String outcome(RafterPlaces roof, String call) {
        int open = call.indexOf('(');
        String[] texts = call.substring(open + 1, call.length() - 1).split(", ");
        long[] n = new long[texts.length];
        for (int i = 0; i < n.length; i++) {
            n[i] = Long.parseLong(texts[i]);
        }
        String name = call.substring(0, open);
        return Checks.outcome(() -> answer(roof, name, n));
    }

    private static Object answer(RafterPlaces roof, String name, long[] n) {
        switch (name) {
            case "outline": return roof.outline(n[0], n[1]);
            case "slope": return roof.slope(index(n[0]), n[1], n[2]);
            case "gable": return roof.gable(index(n[0]));
            case "place": return roof.place(n[0], n[1], index(n[2]));
            case "face": return roof.face(n[0], n[1]);
            case "rafter": return roof.rafter(index(n[0]), n[1]);
            case "end": return roof.end(index(n[0]), n[1], index(n[2]));
            case "against": return roof.against(index(n[0]), n[1]);
            case "length": return roof.length(index(n[0]), n[1], index(n[2]));
            case "tangent": return roof.tangent(index(n[0]), n[1], index(n[2]), index(n[3]));
            case "mouth": return roof.mouth(index(n[0]), n[1], index(n[2]));
            case "hip": return roof.hip(index(n[0]), index(n[1]), index(n[2]));
            case "peak": return roof.peak(index(n[0]));
            case "ridge": return roof.ridge(index(n[0]), index(n[1]));
            case "area": return roof.area(index(n[0]), index(n[1]));
            case "batten": return roof.batten(index(n[0]), n[1]);
            default: throw new AssertionError("there is no call " + name);
        }
    }

    private static int index(long number) {
        return Math.toIntExact(number);
    }
}
