/** The document's sentences under "Terms" about outline, sides, planes, roof, faces, fractions. */
public final class TermsRoofTest {
    public static void main(String[] args) {
        Sentences terms = Sentences.under("Terms");
        terms.test("THE OUTLINE goes from 0, 0 to LONG, WIDE", TermsRoofTest::outlineReach);
        terms.test("(1 .. 2000;", TermsRoofTest::outlineNumbers);
        terms.test("1000, 600 at first)", TermsRoofTest::outlineAtFirst);
        terms.test("SIDES: 0 at y = 0, 1 at x = LONG, 2 at y = WIDE, 3 at x = 0.",
                TermsRoofTest::sidesLines);
        terms.test("A side has a SLOPE, a fraction of two numbers 1 .. 20",
                TermsRoofTest::slopeNumbers);
        terms.test("(1 / 1 at first)", TermsRoofTest::slopesAtFirst);
        terms.test("or is a GABLE.", TermsRoofTest::slopeOrGable);
        terms.test("Its PLANE has at each place the height SLOPE times how far the place is from"
                + " the side's line (straight in).", TermsRoofTest::planeHeights);
        terms.test("THE ROOF has at a place (sides, too) the least height of all planes",
                TermsRoofTest::leastHeight);
        terms.test("of sides that are no GABLES;", TermsRoofTest::gablesHaveNoPlane);
        terms.test("the place's FACE is the least of the sides with that height.",
                TermsRoofTest::faceIsTheLeastSide);
        terms.test("(Not all four are GABLES.)", TermsRoofTest::notAllFourAreGables);
        terms.test("All fractions are told without a common divisor,",
                TermsRoofTest::noCommonDivisor);
        terms.test("the denominator above 0.", TermsRoofTest::denominatorAbove0);
        Checks.finish();
    }

    private static void outlineReach() {
        Calls roof = Calls.after("outline(7, 3)");
        for (String corner : new String[] {"0, 0", "7, 0", "7, 3", "0, 3"}) {
            roof.fraction("place(" + corner + ", part)", "0/1");
        }
        roof.due("face(0, 0)", 0);
        roof.due("face(7, 3)", 1);
        String[] outside = {"-1, 0", "0, -1", "8, 0", "0, 4", "8, 3", "7, 4", "-1, 3", "7, -1",
            "3, 7"};
        for (String place : outside) {
            roof.due("place(" + place + ", 0)", Calls.ARGUMENT);
            roof.due("face(" + place + ")", Calls.ARGUMENT);
        }
    }

    private static void outlineNumbers() {
        long[][] inside = {{1, 1}, {1, 2000}, {2000, 1}, {2000, 2000}};
        for (long[] ends : inside) {
            String outline = "outline(" + ends[0] + ", " + ends[1] + ")";
            Calls.after().due(outline, true);
            Calls roof = Calls.after(outline);
            roof.due(outline, false);
            roof.due("rafter(0, 1)", ends[0] + 1);
            roof.due("rafter(1, 1)", ends[1] + 1);
        }
        Calls.after().dueForEach("outline(?, 5)", Beyond.range(1, 2000), Calls.ARGUMENT);
        Calls.after().dueForEach("outline(5, ?)", Beyond.range(1, 2000), Calls.ARGUMENT);
        Calls.after().dueForEach("outline(?, 0)", Beyond.range(1, 2000), Calls.ARGUMENT);
    }

    private static void outlineAtFirst() {
        Calls roof = Calls.after();
        roof.due("outline(1000, 600)", false);
        roof.due("outline(600, 1000)", true);
        roof.due("face(1000, 600)", 1);
        roof.due("face(1001, 600)", Calls.ARGUMENT);
        roof.due("face(1000, 601)", Calls.ARGUMENT);
        roof.due("rafter(0, 1)", 1001);
        roof.due("rafter(1, 1)", 601);
    }

    private static void sidesLines() {
        String[][] lines = {{"0, 0", "7, 0"}, {"7, 0", "7, 3"}, {"0, 3", "7, 3"}, {"0, 0", "0, 3"}};
        String[] oneFurtherIn = {"7, 1", "6, 3", "7, 2", "1, 3"};
        String[] acrossToTheOpposite = {"7, 3", "0, 3", "7, 0", "7, 3"};
        String[] highestThere = {"3/1", "7/1", "3/1", "7/1"};
        for (int side = 0; side < 4; side++) {
            Calls alone = Calls.after("outline(7, 3)").thenOnly(side);
            for (String place : lines[side]) {
                alone.fraction("place(" + place + ", part)", "0/1");
                alone.due("face(" + place + ")", side);
            }
            alone.fraction("place(" + oneFurtherIn[side] + ", part)", "1/1");
            alone.fraction("place(" + acrossToTheOpposite[side] + ", part)", highestThere[side]);
        }
    }

    private static void slopeNumbers() {
        String[] slopes = {"1, 20", "20, 1", "1, 2", "19, 20", "20, 19"};
        for (int side = 0; side < 4; side++) {
            for (String slope : slopes) {
                String call = "slope(" + side + ", " + slope + ")";
                Calls.after().due(call, true);
                Calls.after(call).fraction("tangent(" + side + ", 0, 0, part)",
                        slope.replace(", ", "/"));
            }
            Calls.after().due("slope(" + side + ", 20, 20)", false);
            String call = "slope(" + side + ", ";
            Calls.after().dueForEach(call + "?, 5)", Beyond.range(1, 20), Calls.ARGUMENT);
            Calls.after().dueForEach(call + "5, ?)", Beyond.range(1, 20), Calls.ARGUMENT);
        }
        Calls.after().due("slope(0, 0, 0)", Calls.ARGUMENT);
        Calls.after().due("slope(0, -1, -1)", Calls.ARGUMENT);
        Calls.after().due("slope(0, 21, 21)", Calls.ARGUMENT);
    }

    private static void slopesAtFirst() {
        for (int side = 0; side < 4; side++) {
            Calls.after().fraction("tangent(" + side + ", 0, 0, part)", "1/1");
            Calls.after().due("slope(" + side + ", 1, 1)", false);
            Calls.after().due("slope(" + side + ", 1, 2)", true);
            Calls.after().due("slope(" + side + ", 2, 1)", true);
        }
    }

    private static void slopeOrGable() {
        for (int side = 0; side < 4; side++) {
            String foot = "tangent(" + side + ", 0, 0, part)";
            Calls gable = Calls.after("slope(" + side + ", 3, 4)", "gable(" + side + ")");
            gable.due(foot.replace("part", "0"), Calls.STATE);
            gable.due("gable(" + side + ")", false);
            Calls sloped = gable.then("slope(" + side + ", 4, 3)");
            sloped.fraction(foot, "4/3");
            sloped.due("gable(" + side + ")", true);
        }
    }

    private static void planeHeights() {
        for (int side = 0; side < 4; side++) {
            Calls steep = Calls.after("outline(2000, 2000)", "slope(" + side + ", 20, 1)")
                    .thenOnly(side);
            Calls flat = Calls.after("outline(2000, 2000)", "slope(" + side + ", 1, 20)")
                    .thenOnly(side);
            long[] in = {0, 1, 1999, 2000};
            String[] steepHeights = {"0/1", "20/1", "39980/1", "40000/1"};
            String[] flatHeights = {"0/1", "1/20", "1999/20", "100/1"};
            for (int i = 0; i < in.length; i++) {
                for (long along : new long[] {0, 777, 2000}) {
                    long across = side == 0 || side == 3 ? in[i] : 2000 - in[i];
                    String place = side % 2 == 0 ? along + ", " + across : across + ", " + along;
                    steep.fraction("place(" + place + ", part)", steepHeights[i]);
                    flat.fraction("place(" + place + ", part)", flatHeights[i]);
                }
            }
        }
    }

    private static void leastHeight() {
        Calls roof = Calls.after("outline(9, 5)", "slope(0, 2, 1)", "slope(1, 1, 3)",
                "slope(2, 5, 2)", "slope(3, 3, 1)");
        for (long x = 0; x <= 9; x++) {
            for (long y = 0; y <= 5; y++) {
                // All four in sixths: 2, 1 / 3, 5 / 2, 3.
                long sixths = Math.min(Math.min(12 * y, 2 * (9 - x)),
                        Math.min(15 * (5 - y), 18 * x));
                String want = Ratio.of(sixths, 6).toString();
                roof.fraction("place(" + x + ", " + y + ", part)", want);
            }
        }
        for (int side = 0; side < 4; side++) {
            String[] middles = {"4, 0", "9, 2", "4, 5", "0, 2"};
            roof.fraction("place(" + middles[side] + ", part)", "0/1");
            roof.due("face(" + middles[side] + ")", side);
        }
    }

    private static void gablesHaveNoPlane() {
        Calls roof = Calls.after("outline(10, 6)", "gable(3)");
        roof.fraction("place(0, 3, part)", "3/1");
        roof.fraction("place(0, 0, part)", "0/1");
        roof.fraction("place(0, 1, part)", "1/1");
        roof.fraction("place(0, 5, part)", "1/1");
        roof.due("face(0, 3)", 0);
        roof.due("face(0, 5)", 2);
        Calls.after("outline(10, 6)", "gable(0)").fraction("place(5, 0, part)", "5/1");
        Calls.after("outline(10, 6)", "gable(1)").fraction("place(10, 3, part)", "3/1");
        Calls.after("outline(10, 6)", "gable(2)").fraction("place(5, 6, part)", "5/1");
        Calls.after("outline(10, 6)").thenOnly(3).fraction("place(10, 0, part)", "10/1");
        // A plane comes back with its slope.
        roof.then("slope(3, 1, 1)").fraction("place(0, 3, part)", "0/1");
    }

    private static void faceIsTheLeastSide() {
        Calls even = Calls.after("outline(8, 8)");
        even.due("face(4, 4)", 0);
        even.then("gable(0)").due("face(4, 4)", 1);
        even.then("gable(0)", "gable(1)").due("face(4, 8)", 2);
        even.then("gable(0)", "gable(1)").due("face(4, 4)", 2);
        even.then("gable(0)", "gable(1)", "gable(2)").due("face(4, 4)", 3);
        even.then("gable(0)", "gable(2)").due("face(4, 4)", 1);
        even.then("gable(1)", "gable(2)", "gable(3)").due("face(8, 8)", 0);
        // Corners, where two sides meet, and the hips that rise from there.
        String[] corners = {"0, 0", "8, 0", "8, 8", "0, 8"};
        String[] onHips = {"1, 1", "7, 1", "7, 7", "1, 7"};
        int[] faces = {0, 0, 1, 2};
        int[] facesWithoutSide0 = {3, 1, 1, 2};
        for (int i = 0; i < 4; i++) {
            even.due("face(" + corners[i] + ")", faces[i]);
            even.due("face(" + onHips[i] + ")", faces[i]);
            even.then("gable(0)").due("face(" + corners[i] + ")", facesWithoutSide0[i]);
        }
        // One beside a hip: one side alone is the lowest.
        even.due("face(2, 1)", 0);
        even.due("face(1, 2)", 3);
        even.due("face(6, 7)", 2);
        even.due("face(7, 6)", 1);
        // As high by other slopes: 1 / 2 * 6 = 3 / 1 * 1.
        Calls slopes = Calls.after("outline(100, 40)", "slope(2, 1, 2)", "slope(3, 3, 1)");
        slopes.due("face(1, 34)", 2);
        slopes.due("face(1, 33)", 3);
        slopes.due("face(1, 35)", 2);
    }

    private static void notAllFourAreGables() {
        for (int kept = 0; kept < 4; kept++) {
            Calls roof = Calls.after().thenOnly(kept);
            roof.due("gable(" + kept + ")", Calls.STATE);
            roof.due("rafter(" + kept + ", 1000)", kept % 2 == 0 ? 2 : 1);
            for (int side = 0; side < 4; side++) {
                if (side != kept) {
                    roof.due("gable(" + side + ")", false);
                    Calls two = roof.then("slope(" + side + ", 1, 1)");
                    two.due("gable(" + kept + ")", true);
                    two.then("gable(" + kept + ")").due("gable(" + side + ")", Calls.STATE);
                }
            }
        }
    }

    private static void noCommonDivisor() {
        Calls roof = Calls.after("outline(100, 60)", "slope(0, 6, 8)", "slope(1, 20, 10)",
                "slope(2, 14, 10)", "slope(3, 10, 12)");
        roof.fraction("place(50, 6, part)", "9/2");
        roof.fraction("place(50, 4, part)", "3/1");
        roof.fraction("place(0, 0, part)", "0/1");
        roof.fraction("end(0, 50, part)", "1680/43");
        roof.fraction("end(0, 9, part)", "10/1");
        roof.fraction("end(0, 0, part)", "0/1");
        roof.fraction("tangent(0, 9, 0, part)", "3/4");
        roof.fraction("tangent(1, 9, 0, part)", "2/1");
        roof.fraction("tangent(1, 9, 1, part)", "1/2");
        roof.fraction("tangent(0, 9, 2, part)", "9/10");
        roof.fraction("tangent(0, 50, 2, part)", "0/1");
        roof.fraction("mouth(0, 0, part)", "0/1");
        roof.fraction("mouth(0, 3, part)", "4/1");
        roof.fraction("mouth(0, 10, part)", "40/3");
        roof.fraction("hip(0, 0, part)", "1680/43");
        roof.fraction("hip(0, 1, part)", "630/43");
        roof.fraction("peak(part)", "1260/43");
        roof.fraction("ridge(0, part)", "1512/43");
        roof.fraction("ridge(3, part)", "1680/43");
        Calls alone = Calls.after("outline(10, 4)", "slope(0, 2, 4)").thenOnly(0);
        alone.fraction("ridge(0, part)", "0/1");
        alone.fraction("ridge(2, part)", "4/1");
        alone.fraction("peak(part)", "2/1");
        alone.fraction("area(0, part)", "80/1");
        Calls.after("outline(1, 1)").fraction("area(0, part)", "1/2");
        Calls.after("outline(2, 2)").fraction("area(0, part)", "2/1");
        Calls.after("outline(2, 2)").fraction("hip(2, 1, part)", "1/1");
        Calls.after("outline(1, 4)").fraction("peak(part)", "1/2");
    }

    private static void denominatorAbove0() {
        Calls roof = Calls.after("outline(3, 2000)", "slope(0, 19, 20)", "slope(1, 1, 20)",
                "slope(2, 20, 1)", "slope(3, 20, 19)");
        for (int side = 0; side < 4; side++) {
            for (int t : new int[] {0, 3}) {
                String rafter = side + ", " + t + ", ";
                aboveZero(roof, "end(" + rafter + "1)");
                aboveZero(roof, "tangent(" + rafter + "0, 1)");
                aboveZero(roof, "tangent(" + rafter + "1, 1)");
                aboveZero(roof, "tangent(" + rafter + "2, 1)");
            }
            aboveZero(roof, "mouth(" + side + ", 0, 1)");
            aboveZero(roof, "mouth(" + side + ", 1000, 1)");
            aboveZero(roof, "hip(" + side + ", 0, 1)");
            aboveZero(roof, "hip(" + side + ", 1, 1)");
            aboveZero(roof, "ridge(" + side + ", 1)");
            aboveZero(Calls.after().thenOnly(side), "ridge(0, 1)");
            aboveZero(Calls.after().thenOnly(side), "ridge(1, 1)");
            aboveZero(Calls.after().thenOnly(side), "ridge(2, 1)");
            aboveZero(Calls.after().thenOnly(side), "ridge(3, 1)");
            aboveZero(Calls.after().thenOnly(side), "end(" + side + ", 0, 1)");
            aboveZero(roof, "area(" + side + ", 1)");
        }
        aboveZero(roof, "peak(1)");
        aboveZero(roof, "place(0, 0, 1)");
        aboveZero(roof, "place(3, 2000, 1)");
        aboveZero(roof, "place(2, 1000, 1)");
    }

    private static void aboveZero(Calls roof, String call) {
        String answer = roof.outcome(call);
        Checks.compare(call + " = " + answer + " is above 0",
                String.valueOf(answer.matches("[1-9][0-9]*")), "true");
    }
}
