/** The document's sentences under "Terms" about peak, ridge, hips, areas and battens. */
public final class TermsRidgeTest {
    private static final Calls MIXED = Calls.after("slope(0, 3, 4)", "slope(1, 2, 1)",
            "slope(2, 7, 5)");

    public static void main(String[] args) {
        Sentences terms = Sentences.under("Terms");
        terms.test("THE PEAK is the greatest height of THE ROOF;",
                TermsRidgeTest::peakIsTheGreatestHeight);
        terms.test("THE RIDGE all places that have it:", TermsRidgeTest::ridgeHasThePeak);
        terms.test("from a least to a greatest x, from a least to a greatest y.",
                TermsRidgeTest::ridgeBounds);
        terms.test("A HIP k goes from the corner between sides k and k + 1",
                TermsRidgeTest::hipBetweenItsSides);
        terms.test("(side 0 behind side 3)", TermsRidgeTest::side0BehindSide3);
        terms.test("along the line where both planes are as high, to THE RIDGE;",
                TermsRidgeTest::hipGoesToTheRidge);
        terms.test("there is none if one of both is a GABLE.", TermsRidgeTest::noHipAtAGable);
        terms.test("AREA of a side is that of all places (seen from above)",
                TermsRidgeTest::areasFillTheOutline);
        terms.test("where its plane is as low as any.", TermsRidgeTest::areaWhereItIsLow);
        terms.test("BATTENS of a side lie in rows at SPACING, 2 * SPACING, .. up the slope from the"
                + " eave;", TermsRidgeTest::battensUpTheSlope);
        terms.test("those that are not higher than THE PEAK.", TermsRidgeTest::battensUpToThePeak);
        Checks.finish();
    }

    /** All ways to have gables, on outlines where peak and ridge lie at whole places. */
    private static void forAllGables(GabledRoof test) {
        long[][] outlines = {{6, 4}, {4, 6}, {4, 4}, {8, 2}, {2, 8}};
        for (long[] ends : outlines) {
            for (int gables = 0; gables < 15; gables++) {
                Calls roof = Calls.after("outline(" + ends[0] + ", " + ends[1] + ")");
                for (int side = 0; side < 4; side++) {
                    roof = isGable(gables, side) ? roof.then("gable(" + side + ")") : roof;
                }
                test.on(roof, ends, gables);
            }
        }
    }

    private interface GabledRoof {
        void on(Calls roof, long[] ends, int gables);
    }

    private static boolean isGable(int gables, int side) {
        return (gables >> side & 1) == 1;
    }

    private static long height(long[] ends, int gables, long x, long y) {
        long[] distances = {y, ends[0] - x, ends[1] - y, x};
        long least = Long.MAX_VALUE;
        for (int side = 0; side < 4; side++) {
            least = isGable(gables, side) ? least : Math.min(least, distances[side]);
        }
        return least;
    }

    private static void peakIsTheGreatestHeight() {
        forAllGables((roof, ends, gables) -> {
            long greatest = 0;
            for (long x = 0; x <= ends[0]; x++) {
                for (long y = 0; y <= ends[1]; y++) {
                    greatest = Math.max(greatest, height(ends, gables, x, y));
                }
            }
            roof.fraction("peak(part)", greatest + "/1");
        });
        MIXED.fraction("peak(part)", "12600/43");
        Calls flat = Calls.after("outline(1, 1)", "slope(0, 1, 20)", "slope(1, 1, 20)",
                "slope(2, 1, 20)", "slope(3, 1, 20)");
        flat.fraction("peak(part)", "1/40");
        for (int side = 0; side < 4; side++) {
            Calls.after("outline(2000, 2000)", "slope(" + side + ", 20, 1)").thenOnly(side)
                    .fraction("peak(part)", "40000/1");
        }
        // One flat side among steep ones keeps the whole roof low.
        Calls.after("outline(2000, 2000)", "slope(0, 20, 1)", "slope(1, 1, 20)", "slope(2, 20, 1)",
                "slope(3, 1, 20)").fraction("peak(part)", "50/1");
    }

    private static void ridgeHasThePeak() {
        forAllGables((roof, ends, gables) -> {
            long[] x = {whole(roof, "ridge(0, part)"), whole(roof, "ridge(1, part)")};
            long[] y = {whole(roof, "ridge(2, part)"), whole(roof, "ridge(3, part)")};
            String peak = roof.fraction("peak(part)");
            for (int i = 0; i < 4; i++) {
                String place = "place(" + x[i % 2] + ", " + y[i / 2] + ", part)";
                roof.fraction(place, peak);
            }
        });
    }

    private static long whole(Calls roof, String call) {
        String told = roof.fraction(call);
        Checks.compare(call + " = " + told + " is whole", String.valueOf(told.endsWith("/1")),
                "true");
        return told.matches("[0-9]+/1") ? Long.parseLong(told.substring(0, told.length() - 2)) : 0;
    }

    private static void ridgeBounds() {
        forAllGables((roof, ends, gables) -> {
            long peak = whole(roof, "peak(part)");
            long[] bounds = {ends[0], 0, ends[1], 0};
            for (long x = 0; x <= ends[0]; x++) {
                for (long y = 0; y <= ends[1]; y++) {
                    if (height(ends, gables, x, y) == peak) {
                        bounds[0] = Math.min(bounds[0], x);
                        bounds[1] = Math.max(bounds[1], x);
                        bounds[2] = Math.min(bounds[2], y);
                        bounds[3] = Math.max(bounds[3], y);
                    }
                }
            }
            ridgeDue(roof, bounds[0] + "/1", bounds[1] + "/1", bounds[2] + "/1", bounds[3] + "/1");
        });
        // A point, a line along x, a line along y, a whole side, a point at a corner.
        ridgeDue(Calls.after("outline(1, 1)"), "1/2", "1/2", "1/2", "1/2");
        ridgeDue(MIXED, "12600/43", "36700/43", "16800/43", "16800/43");
        ridgeDue(Calls.after("outline(3, 2000)"), "3/2", "3/2", "3/2", "3997/2");
        ridgeDue(Calls.after("outline(2000, 3)").thenOnly(1), "0/1", "0/1", "0/1", "3/1");
        ridgeDue(Calls.after("outline(7, 7)", "gable(1)", "gable(2)"), "7/1", "7/1", "7/1", "7/1");
    }

    private static void ridgeDue(Calls roof, String... bounds) {
        for (int what = 0; what < 4; what++) {
            roof.fraction("ridge(" + what + ", part)", bounds[what]);
        }
    }

    private static void hipDue(Calls roof, int k, String fromSide, String fromNext) {
        roof.fraction("hip(" + k + ", 0, part)", fromSide);
        roof.fraction("hip(" + k + ", 1, part)", fromNext);
    }

    private static void hipBetweenItsSides() {
        hipDue(MIXED, 0, "16800/43", "6300/43");
        hipDue(MIXED, 1, "6300/43", "9000/43");
        hipDue(MIXED, 2, "9000/43", "12600/43");
    }

    private static void side0BehindSide3() {
        hipDue(MIXED, 3, "12600/43", "16800/43");
        // The ridge lies on the gable at x = 1000, from y = 500 on.
        hipDue(Calls.after("gable(1)", "gable(2)", "slope(0, 2, 1)"), 3, "1000/1", "500/1");
        Calls.after("gable(0)").due("hip(3, 0, 0)", Calls.STATE);
        Calls.after("gable(3)").due("hip(3, 1, 0)", Calls.STATE);
        Calls.after().due("hip(4, 0, 0)", Calls.INDEX);
    }

    private static void hipGoesToTheRidge() {
        Calls roof = Calls.after("outline(12, 6)");
        for (int k = 0; k < 4; k++) {
            hipDue(roof, k, "3/1", "3/1");
        }
        // On 12 by 9 with these slopes the ridge goes from 4, 6 to 10, 6, and is 6 high.
        Calls slopes = Calls.after("outline(12, 9)", "slope(1, 3, 1)", "slope(2, 2, 1)",
                "slope(3, 3, 2)");
        ridgeDue(slopes, "4/1", "10/1", "6/1", "6/1");
        slopes.fraction("peak(part)", "6/1");
        hipDue(slopes, 0, "6/1", "2/1");
        hipDue(slopes, 1, "2/1", "3/1");
        hipDue(slopes, 2, "3/1", "4/1");
        hipDue(slopes, 3, "4/1", "6/1");
        // To a ridge at the opposite corner, and to one on the opposite side.
        hipDue(Calls.after("outline(7, 7)", "gable(2)", "gable(1)"), 3, "7/1", "7/1");
        hipDue(Calls.after("outline(20, 7)", "gable(2)", "gable(1)"), 3, "7/1", "7/1");
    }

    private static void noHipAtAGable() {
        for (int gable = 0; gable < 4; gable++) {
            Calls roof = Calls.after("outline(2000, 2000)", "gable(" + gable + ")");
            for (int k = 0; k < 4; k++) {
                boolean none = k == gable || (k + 1) % 4 == gable;
                for (int what = 0; what < 2; what++) {
                    String call = "hip(" + k + ", " + what + ", ";
                    roof.due(call + "0)", none ? Calls.STATE : 1000);
                    roof.due(call + "1)", none ? Calls.STATE : 1);
                }
            }
            Calls opposite = roof.then("gable(" + (gable + 2) % 4 + ")");
            Calls alone = Calls.after().thenOnly(gable);
            for (int k = 0; k < 4; k++) {
                opposite.due("hip(" + k + ", 0, 0)", Calls.STATE);
                alone.due("hip(" + k + ", 1, 0)", Calls.STATE);
            }
            roof.then("slope(" + gable + ", 1, 1)").due("hip(" + gable + ", 0, 0)", 1000);
        }
    }

    private static void areasFillTheOutline() {
        forAllGables((roof, ends, gables) -> {
            long sum = 0;
            for (int side = 0; side < 4; side++) {
                sum += isGable(gables, side) ? 0 : whole(roof, "area(" + side + ", part)");
            }
            Checks.compare("sum of areas, gables " + gables + " of " + ends[0] + " by " + ends[1],
                    String.valueOf(sum), String.valueOf(2 * ends[0] * ends[1]));
        });
        for (int side = 0; side < 4; side++) {
            Calls.after("outline(2000, 2000)", "slope(" + side + ", 20, 1)").thenOnly(side)
                    .fraction("area(" + side + ", part)", "8000000/1");
            Calls.after("outline(1, 1)", "slope(" + side + ", 1, 20)").thenOnly(side)
                    .fraction("area(" + side + ", part)", "2/1");
        }
    }

    private static void areasDue(Calls roof, String... areas) {
        for (int side = 0; side < 4; side++) {
            roof.fraction("area(" + side + ", part)", areas[side]);
        }
    }

    private static void areaWhereItIsLow() {
        areasDue(Calls.after(), "420000/1", "180000/1", "420000/1", "180000/1");
        areasDue(MIXED, "1127280000/1849", "3780000/43", "603900000/1849", "7560000/43");
        areasDue(Calls.after("outline(1, 1)"), "1/2", "1/2", "1/2", "1/2");
        // A steep side among flat ones: as small as can be on 1 by 1.
        Calls small = Calls.after("outline(1, 1)", "slope(0, 20, 1)", "slope(1, 1, 20)",
                "slope(2, 1, 20)", "slope(3, 1, 20)");
        small.fraction("area(0, part)", "1/800");
        small.fraction("area(2, part)", "1/2");
        // Two planes that meet along the diagonal, and one plane that hides a corner.
        Calls corner = Calls.after("outline(8, 8)", "gable(1)", "gable(2)");
        corner.fraction("area(0, part)", "64/1");
        corner.fraction("area(3, part)", "64/1");
        Calls uneven = corner.then("outline(10, 8)");
        uneven.fraction("area(0, part)", "96/1");
        uneven.fraction("area(3, part)", "64/1");
    }

    private static void battensUpTheSlope() {
        // 30 up the slope to the peak, which is 18 high.
        Calls roof = Calls.after("outline(1000, 48)", "slope(0, 3, 4)", "slope(2, 3, 4)");
        roof.due("batten(0, 1)", 30);
        roof.due("batten(2, 1)", 30);
        roof.due("batten(0, 2)", 15);
        roof.due("batten(0, 4)", 7);
        roof.due("batten(0, 14)", 2);
        roof.due("batten(0, 16)", 1);
        // No row at the eave itself, and none without a place for it.
        roof.due("batten(0, 31)", 0);
        roof.due("batten(0, 10000)", 0);
        Calls.after("outline(1, 1)").due("batten(0, 1)", 0);
        Calls.after("outline(2000, 2000)", "slope(0, 20, 1)").thenOnly(0)
                .due("batten(0, 1)", 40049);
        Calls.after("outline(2000, 2000)", "slope(0, 1, 20)").thenOnly(0)
                .due("batten(0, 1)", 2002);
    }

    private static void battensUpToThePeak() {
        // The row on the peak itself is not higher.
        Calls whole = Calls.after("outline(1000, 48)", "slope(0, 3, 4)", "slope(2, 3, 4)");
        whole.due("batten(0, 30)", 1);
        whole.due("batten(0, 29)", 1);
        whole.due("batten(0, 15)", 2);
        whole.due("batten(0, 10)", 3);
        whole.due("batten(0, 11)", 2);
        Calls.after("outline(5, 2000)", "slope(0, 3, 4)").thenOnly(0).due("batten(0, 2500)", 1);
        Calls.after("outline(5, 2000)", "slope(0, 3, 4)").thenOnly(0).due("batten(0, 2501)", 0);
        Calls.after("outline(5, 2000)", "slope(0, 3, 4)").thenOnly(0).due("batten(0, 1250)", 2);
        // A peak of 12, or 5: 16.97 or 7.07 up the slope.
        Calls justBelow = Calls.after("outline(2000, 24)");
        justBelow.due("batten(0, 17)", 0);
        justBelow.due("batten(0, 16)", 1);
        Calls justAbove = Calls.after("outline(2000, 10)");
        justAbove.due("batten(0, 7)", 1);
        justAbove.due("batten(0, 8)", 0);
        // The faces at the ends are triangles, and reach the peak too.
        Calls.after().due("batten(1, 1)", 424);
        Calls.after().due("batten(3, 212)", 2);
        Calls.after().due("batten(3, 213)", 1);
        // Another side's slope lowers the peak, and takes rows away.
        Calls.after("slope(2, 1, 2)").due("batten(0, 1)", 282);
        Calls.after("outline(1000, 100)", "gable(0)", "gable(2)").due("batten(1, 1)", 707);
    }
}
