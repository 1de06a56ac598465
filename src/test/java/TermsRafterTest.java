/** The document's sentences under "Terms" about rafters: ends, lengths, numbers, cuts, mouths. */
public final class TermsRafterTest {
    private static final Calls SMALL = Calls.after("outline(9, 4)");
    private static final Calls MIXED = Calls.after("outline(100, 60)", "slope(0, 3, 4)",
            "slope(1, 2, 1)", "slope(2, 7, 5)", "slope(3, 5, 6)");

    public static void main(String[] args) {
        Sentences terms = Sentences.under("Terms");
        terms.test("A RAFTER of a side at t (0 .. the side's length,",
                TermsRafterTest::tIsOnTheSide);
        terms.test("from its end at the lesser x or y on)", TermsRafterTest::tGoesFromTheLesser);
        terms.test("goes from the side straight in: its END is as far in as its own plane is not"
                + " above any other one,", TermsRafterTest::endIsWhereThePlaneIsNotAbove);
        terms.test("at most to the opposite side.", TermsRafterTest::atMostToTheOpposite);
        terms.test("Its LENGTH along the slope is END times the root of 1 + SLOPE * SLOPE:",
                TermsRafterTest::lengthAlongTheSlope);
        terms.test("told cut off, or the next whole number, if it is not whole.",
                TermsRafterTest::cutOffOrNext);
        terms.test("RAFTERS by a SPACING: at 0, SPACING, 2 * SPACING, .. up to the side's length.",
                TermsRafterTest::raftersUpToTheLength);
        terms.test("at foot and ridge (cut 0) SLOPE;", TermsRafterTest::cutAtFoot);
        terms.test("of its seat (1) 1 by SLOPE;", TermsRafterTest::cutOfSeat);
        terms.test("of its end, seen from above (2): 0 if the opposite plane or side ends it,",
                TermsRafterTest::cutAtTheOpposite);
        terms.test("else SLOPE by the SLOPE of the plane that does", TermsRafterTest::cutAtAPlane);
        terms.test("(of several sides the least ends it).", TermsRafterTest::theLeastEndsIt);
        terms.test("A MOUTH so deep into it (straight down) is DEPTH by SLOPE long.",
                TermsRafterTest::mouthIsDepthBySlope);
        Checks.finish();
    }

    private static void tIsOnTheSide() {
        for (int side = 0; side < 4; side++) {
            long length = side % 2 == 0 ? 9 : 4;
            for (long t : new long[] {0, length}) {
                SMALL.fraction("end(" + side + ", " + t + ", part)", "0/1");
                SMALL.due("length(" + side + ", " + t + ", 1)", 0);
                SMALL.fraction("tangent(" + side + ", " + t + ", 2, part)", "1/1");
            }
            long[] beyond = Beyond.range(0, length);
            SMALL.dueForEach("end(" + side + ", ?, 0)", beyond, Calls.ARGUMENT);
            SMALL.dueForEach("against(" + side + ", ?)", beyond, Calls.ARGUMENT);
            SMALL.dueForEach("length(" + side + ", ?, 0)", beyond, Calls.ARGUMENT);
            for (int cut = 0; cut < 3; cut++) {
                SMALL.dueForEach("tangent(" + side + ", ?, " + cut + ", 0)", beyond,
                        Calls.ARGUMENT);
            }
        }
        // The side's length follows the outline.
        Calls other = SMALL.then("outline(2000, 1)");
        other.due("against(0, 2000)", 1);
        other.due("against(1, 1)", 2);
        other.due("against(0, 2001)", Calls.ARGUMENT);
        other.due("against(1, 2)", Calls.ARGUMENT);
    }

    private static void tGoesFromTheLesser() {
        int[] atZero = {3, 0, 3, 0};
        int[] atLength = {1, 2, 1, 2};
        for (int side = 0; side < 4; side++) {
            long length = side % 2 == 0 ? 9 : 4;
            SMALL.due("against(" + side + ", 0)", atZero[side]);
            SMALL.due("against(" + side + ", 1)", atZero[side]);
            SMALL.due("against(" + side + ", " + length + ")", atLength[side]);
            SMALL.due("against(" + side + ", " + (length - 1) + ")", atLength[side]);
            SMALL.fraction("end(" + side + ", 1, part)", "1/1");
            SMALL.fraction("end(" + side + ", " + (length - 1) + ", part)", "1/1");
        }
    }

    private static void rafterDue(Calls roof, int side, long t, String end, int against) {
        roof.fraction("end(" + side + ", " + t + ", part)", end);
        roof.due("against(" + side + ", " + t + ")", against);
    }

    private static void endIsWhereThePlaneIsNotAbove() {
        Calls even = Calls.after("outline(100, 60)");
        // Planes that are as high do not end it before the place where they are.
        rafterDue(even, 0, 29, "29/1", 3);
        rafterDue(even, 0, 30, "30/1", 2);
        rafterDue(even, 0, 31, "30/1", 2);
        rafterDue(even, 0, 69, "30/1", 2);
        rafterDue(even, 0, 70, "30/1", 1);
        rafterDue(even, 0, 71, "29/1", 1);
        even.due("face(31, 30)", 0);
        even.due("face(31, 31)", 2);
        rafterDue(even, 1, 29, "29/1", 0);
        rafterDue(even, 1, 30, "30/1", 0);
        rafterDue(even, 1, 31, "29/1", 2);
        rafterDue(even, 3, 30, "30/1", 0);
        rafterDue(MIXED, 0, 35, "350/9", 3);
        rafterDue(MIXED, 0, 36, "1680/43", 2);
        rafterDue(MIXED, 0, 85, "1680/43", 2);
        rafterDue(MIXED, 0, 86, "112/3", 1);
        // The least and the greatest END that is not 0.
        rafterDue(Calls.after("slope(0, 20, 1)", "slope(3, 1, 20)"), 0, 1, "1/400", 3);
        rafterDue(Calls.after("outline(2000, 2000)", "slope(0, 1, 20)", "slope(2, 20, 1)",
                "gable(1)", "gable(3)"), 0, 0, "800000/401", 2);
    }

    private static void atMostToTheOpposite() {
        Calls roof = Calls.after("outline(200, 60)", "gable(2)");
        rafterDue(roof, 0, 59, "59/1", 3);
        rafterDue(roof, 0, 60, "60/1", 2);
        rafterDue(roof, 0, 61, "60/1", 2);
        rafterDue(roof, 0, 139, "60/1", 2);
        rafterDue(roof, 0, 140, "60/1", 1);
        rafterDue(roof, 0, 141, "59/1", 1);
        for (int side = 0; side < 4; side++) {
            Calls alone = Calls.after("outline(200, 60)", "slope(" + side + ", 1, 20)")
                    .thenOnly(side);
            long length = side % 2 == 0 ? 200 : 60;
            String way = side % 2 == 0 ? "60/1" : "200/1";
            for (long t : new long[] {0, 1, length / 2, length}) {
                rafterDue(alone, side, t, way, (side + 2) % 4);
            }
        }
        // A plane opposite, as flat as can be, ends it before that side.
        rafterDue(Calls.after("outline(200, 60)", "gable(1)", "gable(3)", "slope(2, 1, 20)"),
                0, 0, "20/7", 2);
    }

    private static void lengthDue(Calls roof, int side, long t, long cutOff, long notBelow) {
        roof.due("length(" + side + ", " + t + ", 0)", cutOff);
        roof.due("length(" + side + ", " + t + ", 1)", notBelow);
    }

    private static Calls onePlane(long way, long above, long below) {
        return Calls.after("outline(5, " + way + ")", "slope(0, " + above + ", " + below + ")")
                .thenOnly(0);
    }

    private static void lengthAlongTheSlope() {
        lengthDue(onePlane(8, 3, 4), 0, 5, 10, 10);
        lengthDue(onePlane(6, 4, 3), 0, 5, 10, 10);
        lengthDue(onePlane(5, 12, 5), 0, 0, 13, 13);
        lengthDue(onePlane(12, 5, 12), 0, 0, 13, 13);
        lengthDue(onePlane(2000, 3, 4), 0, 0, 2500, 2500);
        lengthDue(onePlane(2000, 20, 1), 0, 0, 40049, 40050);
        lengthDue(onePlane(2000, 1, 20), 0, 0, 2002, 2003);
        lengthDue(onePlane(1, 20, 1), 0, 0, 20, 21);
        lengthDue(onePlane(1, 1, 20), 0, 0, 1, 2);
        // Cut short by another plane: END is 12 / 5.
        lengthDue(Calls.after("slope(0, 3, 4)", "slope(3, 9, 5)"), 0, 1, 3, 3);
    }

    private static void cutOffOrNext() {
        lengthDue(Calls.after(), 0, 0, 0, 0);
        lengthDue(Calls.after("slope(0, 20, 1)", "slope(3, 1, 20)"), 0, 1, 0, 1);
        // 2 * 5 * 5 = 7 * 7 + 1, 2 * 12 * 12 = 17 * 17 - 1, and so on: as near as can be.
        long[] ends = {1, 2, 5, 12, 29, 70, 169, 408, 985};
        long[] cutOffs = {1, 2, 7, 16, 41, 98, 239, 576, 1393};
        for (int i = 0; i < ends.length; i++) {
            lengthDue(onePlane(ends[i], 1, 1), 0, 0, cutOffs[i], cutOffs[i] + 1);
        }
        for (long whole : new long[] {1, 2, 3, 499, 500}) {
            lengthDue(onePlane(4 * whole, 3, 4), 0, 0, 5 * whole, 5 * whole);
        }
        // END 800 / 401 is no whole number, and neither is its length.
        lengthDue(Calls.after("outline(5, 2)", "slope(0, 1, 20)", "slope(2, 20, 1)",
                "gable(1)", "gable(3)"), 0, 0, 1, 2);
    }

    private static void raftersUpToTheLength() {
        long[] lengths = {1, 2, 1999, 2000};
        for (long length : lengths) {
            long other = 2001 - length;
            Calls roof = Calls.after("outline(" + length + ", " + other + ")");
            for (int side = 0; side < 4; side++) {
                long own = side % 2 == 0 ? length : other;
                roof.due("rafter(" + side + ", 1)", own + 1);
                roof.due("rafter(" + side + ", " + own + ")", 2);
                roof.due("rafter(" + side + ", " + (own + 1) + ")", 1);
                roof.due("rafter(" + side + ", 10000)", 1);
            }
        }
        Calls roof = Calls.after("outline(2000, 600)");
        roof.due("rafter(0, 1999)", 2);
        roof.due("rafter(0, 1001)", 2);
        roof.due("rafter(0, 1000)", 3);
        roof.due("rafter(0, 999)", 3);
        roof.due("rafter(0, 667)", 3);
        roof.due("rafter(0, 666)", 4);
        roof.due("rafter(3, 300)", 3);
        roof.due("rafter(3, 301)", 2);
    }

    private static void cutAtFoot() {
        String[] slopes = {"3/4", "2/1", "7/5", "5/6"};
        for (int side = 0; side < 4; side++) {
            MIXED.fraction("tangent(" + side + ", 0, 0, part)", slopes[side]);
            MIXED.fraction("tangent(" + side + ", 60, 0, part)", slopes[side]);
        }
        Calls.after("slope(1, 20, 1)").fraction("tangent(1, 300, 0, part)", "20/1");
        Calls.after("slope(1, 1, 20)").fraction("tangent(1, 300, 0, part)", "1/20");
    }

    private static void cutOfSeat() {
        String[] bySlopes = {"4/3", "1/2", "5/7", "6/5"};
        for (int side = 0; side < 4; side++) {
            MIXED.fraction("tangent(" + side + ", 0, 1, part)", bySlopes[side]);
            MIXED.fraction("tangent(" + side + ", 60, 1, part)", bySlopes[side]);
        }
        Calls.after("slope(1, 20, 1)").fraction("tangent(1, 300, 1, part)", "1/20");
        Calls.after("slope(1, 1, 20)").fraction("tangent(1, 300, 1, part)", "20/1");
    }

    private static void cutAtTheOpposite() {
        MIXED.fraction("tangent(0, 36, 2, part)", "0/1");
        MIXED.fraction("tangent(0, 85, 2, part)", "0/1");
        MIXED.fraction("tangent(2, 50, 2, part)", "0/1");
        Calls turned = Calls.after("outline(60, 100)");
        turned.fraction("tangent(1, 50, 2, part)", "0/1");
        turned.fraction("tangent(3, 50, 2, part)", "0/1");
        for (int side = 0; side < 4; side++) {
            Calls.after().thenOnly(side).fraction("tangent(" + side + ", 0, 2, part)", "0/1");
        }
    }

    private static void cutAtAPlane() {
        MIXED.fraction("tangent(0, 35, 2, part)", "9/10");
        MIXED.fraction("tangent(0, 86, 2, part)", "3/8");
        MIXED.fraction("tangent(1, 0, 2, part)", "8/3");
        MIXED.fraction("tangent(1, 60, 2, part)", "10/7");
        MIXED.fraction("tangent(2, 0, 2, part)", "42/25");
        MIXED.fraction("tangent(2, 100, 2, part)", "7/10");
        MIXED.fraction("tangent(3, 0, 2, part)", "10/9");
        MIXED.fraction("tangent(3, 60, 2, part)", "25/42");
        Calls steep = Calls.after("slope(0, 20, 1)", "slope(3, 1, 20)");
        steep.fraction("tangent(0, 0, 2, part)", "400/1");
        steep.fraction("tangent(3, 0, 2, part)", "1/400");
    }

    private static void endedBy(Calls roof, int side, long t, int ending, String cut) {
        roof.due("against(" + side + ", " + t + ")", ending);
        roof.fraction("tangent(" + side + ", " + t + ", 2, part)", cut);
    }

    private static void theLeastEndsIt() {
        // Three planes as high at the middle.
        Calls square = Calls.after("outline(8, 8)");
        int[] leastOfThree = {1, 0, 0, 0};
        String[] cuts = {"1/1", "1/1", "0/1", "1/1"};
        for (int side = 0; side < 4; side++) {
            endedBy(square, side, 4, leastOfThree[side], cuts[side]);
        }
        // The opposite plane and a neighbour's.
        Calls along = Calls.after("outline(100, 60)");
        endedBy(along, 0, 30, 2, "0/1");
        endedBy(along, 0, 70, 1, "1/1");
        endedBy(along, 2, 30, 0, "0/1");
        endedBy(along, 2, 70, 0, "0/1");
        Calls across = Calls.after("outline(60, 100)");
        endedBy(across, 1, 30, 0, "1/1");
        endedBy(across, 1, 70, 2, "1/1");
        endedBy(across, 3, 30, 0, "1/1");
        endedBy(across, 3, 70, 1, "0/1");
        // Both neighbours' planes, the opposite side far off.
        endedBy(across, 0, 30, 1, "1/1");
        endedBy(across, 2, 30, 1, "1/1");
        endedBy(along, 1, 30, 0, "1/1");
        endedBy(along, 3, 30, 0, "1/1");
        // A gable opposite and a neighbour's plane.
        Calls gable2 = Calls.after("outline(200, 60)", "gable(2)");
        endedBy(gable2, 0, 60, 2, "0/1");
        endedBy(gable2, 0, 140, 1, "1/1");
        endedBy(Calls.after("outline(200, 60)", "gable(0)"), 2, 140, 0, "0/1");
        Calls gable1 = Calls.after("outline(60, 200)", "gable(1)");
        endedBy(gable1, 3, 60, 0, "1/1");
        endedBy(gable1, 3, 140, 1, "0/1");
        Calls gable3 = Calls.after("outline(60, 200)", "gable(3)");
        endedBy(gable3, 1, 60, 0, "1/1");
        endedBy(gable3, 1, 140, 2, "1/1");
    }

    private static void mouthIsDepthBySlope() {
        MIXED.fraction("mouth(0, 0, part)", "0/1");
        MIXED.fraction("mouth(0, 1, part)", "4/3");
        MIXED.fraction("mouth(1, 1, part)", "1/2");
        MIXED.fraction("mouth(2, 7, part)", "5/1");
        MIXED.fraction("mouth(3, 1000, part)", "1200/1");
        Calls.after("slope(0, 1, 20)").fraction("mouth(0, 1000, part)", "20000/1");
        Calls.after("slope(0, 20, 1)").fraction("mouth(0, 1, part)", "1/20");
        Calls.after("slope(0, 20, 1)").fraction("mouth(0, 999, part)", "999/20");
    }
}
