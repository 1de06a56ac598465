/** The document's sentences about exceptions, and about how long an object is used. */
public final class TermsCallsTest {
    /** Side 2 is a gable, so hips 1 and 2 are none. */
    private static final Calls GABLED = Calls.after("outline(100, 60)", "slope(0, 3, 4)",
            "slope(1, 2, 1)", "slope(3, 5, 6)", "gable(2)");
    private static final Calls ALONE = Calls.after("outline(100, 60)").thenOnly(2);

    public static void main(String[] args) {
        Sentences terms = Sentences.under("Terms");
        terms.test("A call that throws changes nothing;", TermsCallsTest::changesNothing);
        terms.test("of several exceptions the one named first is thrown.",
                TermsCallsTest::theFirstIsThrown);
        terms.test("ArrayIndexOutOfBoundsException: there is no such side,",
                TermsCallsTest::noSuchSide);
        terms.test("no such side, part,", TermsCallsTest::noSuchPart);
        terms.test("part, cut,", TermsCallsTest::noSuchCut);
        terms.test("cut, end,", TermsCallsTest::noSuchEnd);
        terms.test("end, hip.", TermsCallsTest::noSuchHip);
        terms.test("IllegalStateException: the side is a GABLE,", TermsCallsTest::theSideIsAGable);
        terms.test("or it can't be as told.", TermsCallsTest::itCannotBeAsTold);
        terms.test("IllegalArgumentException: another number is not as said.",
                TermsCallsTest::anotherNumber);
        Sentences.under("What it is").test(
                "An object is used for at most 512 calls after it has been made;",
                TermsCallsTest::heldFor512Calls);
        Sentences.under("The public face").test("public static final int NONE = -1;",
                () -> Checks.due("NONE", () -> RafterPlaces.NONE, -1));
        Checks.finish();
    }

    /** due() compares the whole roof after each of these; the answers after them are asked too. */
    private static void changesNothing() {
        GABLED.due("outline(50, 2001)", Calls.ARGUMENT);
        GABLED.due("outline(2001, 50)", Calls.ARGUMENT);
        GABLED.due("slope(1, 7, 21)", Calls.ARGUMENT);
        GABLED.due("slope(1, 21, 7)", Calls.ARGUMENT);
        GABLED.due("slope(2, 7, 0)", Calls.ARGUMENT);
        GABLED.due("slope(4, 7, 9)", Calls.INDEX);
        GABLED.due("gable(4)", Calls.INDEX);
        GABLED.due("gable(-1)", Calls.INDEX);
        ALONE.due("gable(2)", Calls.STATE);
        GABLED.due("place(101, 0, 0)", Calls.ARGUMENT);
        GABLED.due("face(0, 61)", Calls.ARGUMENT);
        String[] ofAGable = {"rafter(2, 1)", "end(2, 0, 0)", "against(2, 0)", "length(2, 0, 0)",
            "tangent(2, 0, 0, 0)", "mouth(2, 0, 0)", "hip(1, 0, 0)", "hip(2, 0, 0)", "area(2, 0)",
            "batten(2, 1)"};
        for (String call : ofAGable) {
            GABLED.due(call, Calls.STATE);
        }
        String[] ofNoPart = {"place(0, 0, 2)", "end(0, 0, 2)", "length(0, 0, 2)",
            "tangent(0, 0, 3, 0)", "mouth(0, 0, 2)", "hip(0, 2, 0)", "peak(2)", "ridge(4, 0)",
            "area(0, 2)"};
        for (String call : ofNoPart) {
            GABLED.due(call, Calls.INDEX);
        }
        RafterPlaces roof = new RafterPlaces();
        String[] refused = {"outline(50, 0)", "outline(0, 50)", "slope(0, 2, 0)", "slope(0, 0, 2)",
            "gable(4)"};
        for (String call : refused) {
            Calls.outcome(roof, call);
        }
        Checks.compare("the old outline then", Calls.outcome(roof, "outline(1000, 600)"), "false");
        Checks.compare("the old slope then", Calls.outcome(roof, "slope(0, 1, 1)"), "false");
    }

    private static void theFirstIsThrown() {
        GABLED.due("slope(4, 0, 21)", Calls.INDEX);
        GABLED.due("slope(-1, 5, 21)", Calls.INDEX);
        ALONE.due("gable(4)", Calls.INDEX);
        ALONE.due("gable(-1)", Calls.INDEX);
        GABLED.due("place(-1, 0, 2)", Calls.INDEX);
        GABLED.due("place(0, 61, -1)", Calls.INDEX);
        for (String call : new String[] {"rafter", "batten"}) {
            GABLED.due(call + "(4, 0)", Calls.INDEX);
            GABLED.due(call + "(-1, 10001)", Calls.INDEX);
            GABLED.due(call + "(2, 0)", Calls.STATE);
            GABLED.due(call + "(2, 10001)", Calls.STATE);
        }
        GABLED.due("against(4, -1)", Calls.INDEX);
        GABLED.due("against(2, -1)", Calls.STATE);
        GABLED.due("against(2, 101)", Calls.STATE);
        for (String call : new String[] {"end", "length", "mouth"}) {
            GABLED.due(call + "(4, -1, 2)", Calls.INDEX);
            GABLED.due(call + "(4, -1, 0)", Calls.INDEX);
            GABLED.due(call + "(0, -1, 2)", Calls.INDEX);
            GABLED.due(call + "(0, 1001, -1)", Calls.INDEX);
            GABLED.due(call + "(2, 0, 2)", Calls.INDEX);
            GABLED.due(call + "(2, -1, 2)", Calls.INDEX);
            GABLED.due(call + "(2, -1, 0)", Calls.STATE);
            GABLED.due(call + "(2, 1001, 1)", Calls.STATE);
        }
        String[] noIndex = {"4, -1, 0, 0", "4, -1, 3, 2", "0, -1, 3, 0", "0, -1, 0, 2",
            "0, 101, -1, 0", "0, 101, 0, -1", "2, 0, 3, 0", "2, 0, 0, 2", "2, -1, 3, 2"};
        for (String numbers : noIndex) {
            GABLED.due("tangent(" + numbers + ")", Calls.INDEX);
        }
        GABLED.due("tangent(2, -1, 0, 0)", Calls.STATE);
        GABLED.due("tangent(2, 101, 2, 1)", Calls.STATE);
        for (String numbers : new String[] {"1, 2, 0", "1, 0, 2", "2, -1, 0", "2, 1, -1"}) {
            GABLED.due("hip(" + numbers + ")", Calls.INDEX);
        }
        GABLED.due("area(2, 2)", Calls.INDEX);
        GABLED.due("area(2, -1)", Calls.INDEX);
    }

    private static void noSuchSide() {
        String[] calls = {"slope(?, 1, 1)", "gable(?)", "rafter(?, 1)", "end(?, 0, 0)",
            "against(?, 0)", "length(?, 0, 0)", "tangent(?, 0, 0, 0)", "mouth(?, 0, 0)",
            "area(?, 0)", "batten(?, 1)"};
        for (String call : calls) {
            GABLED.dueForEach(call, Beyond.index(4), Calls.INDEX);
        }
    }

    private static void noSuchPart() {
        String[] calls = {"place(0, 0, ?)", "end(0, 0, ?)", "tangent(0, 0, 0, ?)",
            "tangent(0, 0, 2, ?)", "mouth(0, 0, ?)", "hip(0, 0, ?)", "hip(3, 1, ?)", "peak(?)",
            "ridge(0, ?)", "ridge(3, ?)", "area(0, ?)"};
        for (String call : calls) {
            GABLED.dueForEach(call, Beyond.index(2), Calls.INDEX);
        }
    }

    private static void noSuchCut() {
        GABLED.dueForEach("tangent(0, 0, ?, 0)", Beyond.index(3), Calls.INDEX);
        GABLED.dueForEach("tangent(0, 0, ?, 1)", Beyond.index(3), Calls.INDEX);
    }

    private static void noSuchEnd() {
        GABLED.dueForEach("length(0, 0, ?)", Beyond.index(2), Calls.INDEX);
        GABLED.dueForEach("length(0, 50, ?)", Beyond.index(2), Calls.INDEX);
    }

    private static void noSuchHip() {
        GABLED.dueForEach("hip(?, 0, 0)", Beyond.index(4), Calls.INDEX);
        Calls.after().dueForEach("hip(?, 1, 1)", Beyond.index(4), Calls.INDEX);
    }

    private static void theSideIsAGable() {
        String[] calls = {"rafter(?, 1)", "end(?, 0, 0)", "end(?, 0, 1)", "against(?, 0)",
            "length(?, 0, 0)", "length(?, 0, 1)", "tangent(?, 0, 0, 0)", "tangent(?, 0, 1, 0)",
            "tangent(?, 0, 2, 1)", "mouth(?, 0, 0)", "hip(?, 0, 0)", "area(?, 0)", "area(?, 1)",
            "batten(?, 1)"};
        for (int side = 0; side < 4; side++) {
            Calls gable = Calls.after("gable(" + side + ")");
            for (String call : calls) {
                String ofIt = call.replace("?", String.valueOf(side));
                gable.due(ofIt, Calls.STATE);
                String again = gable.then("slope(" + side + ", 1, 1)").outcome(ofIt);
                Checks.compare("with a slope again: " + ofIt, again, Calls.after().outcome(ofIt));
            }
        }
    }

    private static void itCannotBeAsTold() {
        for (int kept = 0; kept < 4; kept++) {
            Calls.after().thenOnly(kept).due("gable(" + kept + ")", Calls.STATE);
            Calls.after("gable(" + kept + ")").due("hip(" + kept + ", 0, 0)", Calls.STATE);
            Calls.after("gable(" + kept + ")").due("hip(" + (kept + 3) % 4 + ", 0, 0)",
                    Calls.STATE);
        }
    }

    private static void anotherNumber() {
        GABLED.dueForEach("outline(?, 600)", Beyond.range(1, 2000), Calls.ARGUMENT);
        GABLED.dueForEach("outline(1000, ?)", Beyond.range(1, 2000), Calls.ARGUMENT);
        GABLED.dueForEach("slope(2, ?, 1)", Beyond.range(1, 20), Calls.ARGUMENT);
        GABLED.dueForEach("slope(2, 1, ?)", Beyond.range(1, 20), Calls.ARGUMENT);
        GABLED.dueForEach("place(?, 0, 0)", Beyond.range(0, 100), Calls.ARGUMENT);
        GABLED.dueForEach("place(0, ?, 0)", Beyond.range(0, 60), Calls.ARGUMENT);
        GABLED.dueForEach("face(?, 0)", Beyond.range(0, 100), Calls.ARGUMENT);
        GABLED.dueForEach("face(0, ?)", Beyond.range(0, 60), Calls.ARGUMENT);
        GABLED.dueForEach("rafter(0, ?)", Beyond.range(1, 10000), Calls.ARGUMENT);
        GABLED.dueForEach("end(1, ?, 0)", Beyond.range(0, 60), Calls.ARGUMENT);
        GABLED.dueForEach("against(1, ?)", Beyond.range(0, 60), Calls.ARGUMENT);
        GABLED.dueForEach("length(0, ?, 0)", Beyond.range(0, 100), Calls.ARGUMENT);
        GABLED.dueForEach("tangent(0, ?, 2, 0)", Beyond.range(0, 100), Calls.ARGUMENT);
        GABLED.dueForEach("mouth(0, ?, 0)", Beyond.range(0, 1000), Calls.ARGUMENT);
        GABLED.dueForEach("batten(0, ?)", Beyond.range(1, 10000), Calls.ARGUMENT);
    }

    private static final String[] ALL_CALLS = {"outline(70, 90)", "slope(0, 7, 9)", "gable(1)",
        "place(3, 2, 0)", "face(3, 2)", "rafter(0, 7)", "end(0, 7, 0)", "against(0, 7)",
        "length(0, 7, 1)", "tangent(0, 7, 2, 0)", "mouth(0, 7, 0)", "hip(2, 0, 0)", "peak(0)",
        "ridge(1, 0)", "area(2, 0)", "batten(2, 7)"};

    private static void heldFor512Calls() {
        // Each call as the 512th one, after 511 of all kinds, refused ones among them.
        for (String last : ALL_CALLS) {
            RafterPlaces old = new RafterPlaces();
            for (int call = 1; call <= 505; call++) {
                Calls.outcome(old, call % 5 == 0 ? "slope(0, 0, 0)" : ALL_CALLS[call % 16]);
            }
            String[] asNew = {"outline(1000, 600)", "slope(0, 1, 1)", "slope(1, 1, 1)",
                "slope(2, 1, 1)", "slope(3, 1, 1)", "peak(0)"};
            for (String call : asNew) {
                Calls.outcome(old, call);
            }
            Checks.compare("call 512, " + last, Calls.outcome(old, last),
                    Calls.after().outcome(last));
        }
        // 256 times another outline, each with an answer from it.
        RafterPlaces changing = new RafterPlaces();
        for (int i = 1; i <= 256; i++) {
            Checks.compare("change " + i, Calls.outcome(changing, "outline(2000, " + 2 * i + ")"),
                    "true");
            Checks.compare("its peak", Calls.outcome(changing, "peak(0)"), String.valueOf(i));
        }
        // 512 times the same call gives 512 times the same answer.
        RafterPlaces same = new RafterPlaces();
        for (int i = 1; i <= 512; i++) {
            Checks.compare("batten, call " + i, Calls.outcome(same, "batten(0, 1)"), "424");
        }
    }
}
