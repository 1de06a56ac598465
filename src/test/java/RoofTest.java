/** Promises 1 to 4: a new object, outline, slope, gable. */
public final class RoofTest {
    public static void main(String[] args) {
        aNewObject();
        outline();
        slope();
        gable();
        Checks.finish();
    }

    private static void aNewObject() {
        RafterPlaces roof = new RafterPlaces();
        Checks.compare("new: peak", Checks.peak(roof), "300/1");
        Checks.compare("new: ridge", Checks.ridge(roof), "300/1 700/1 300/1 300/1");
        for (int side = 0; side < 4; side++) {
            Checks.compare("new: slope of " + side, Checks.tangent(roof, side, 0, 0), "1/1");
        }
        Checks.due("new: 1000 by 600", () -> roof.outline(1000, 600), false);
        Checks.due("new: slope 1/1", () -> roof.slope(3, 20, 20), false);
        RafterPlaces another = new RafterPlaces();
        another.outline(7, 7);
        another.gable(2);
        Checks.compare("each roof is its own", Checks.state(roof), Checks.state(new RafterPlaces()));
    }

    private static void outline() {
        RafterPlaces roof = new RafterPlaces();
        Checks.due("outline(1000, 601)", () -> roof.outline(1000, 601), true);
        Checks.due("outline(1000, 601) again", () -> roof.outline(1000, 601), false);
        Checks.due("outline(999, 601)", () -> roof.outline(999, 601), true);
        Checks.due("outline(601, 999)", () -> roof.outline(601, 999), true);
        Checks.due("its rafters along x", () -> roof.rafter(0, 1), 602);
        Checks.due("its rafters along y", () -> roof.rafter(1, 1), 1000);
        Checks.due("outline(1, 1)", () -> roof.outline(1, 1), true);
        Checks.compare("peak of 1 by 1", Checks.peak(roof), "1/2");
        Checks.due("outline(2000, 2000)", () -> roof.outline(2000, 2000), true);
        Checks.compare("peak of 2000 by 2000", Checks.peak(roof), "1000/1");
        long[] wrong = {Long.MIN_VALUE, -1, 0, 2001, (1L << 32) + 1, Long.MAX_VALUE};
        for (long number : wrong) {
            Checks.raises("outline(" + number + ", 5)", () -> roof.outline(number, 5),
                    IllegalArgumentException.class);
            Checks.raises("outline(5, " + number + ")", () -> roof.outline(5, number),
                    IllegalArgumentException.class);
        }
        Checks.due("nothing has changed", () -> roof.outline(2000, 2000), false);
        RafterPlaces gabled = new RafterPlaces();
        gabled.gable(1);
        gabled.slope(0, 3, 7);
        gabled.outline(70, 20);
        Checks.due("outline keeps a gable", () -> gabled.gable(1), false);
        Checks.due("outline keeps a slope", () -> gabled.slope(0, 3, 7), false);
    }

    private static void slope() {
        RafterPlaces roof = new RafterPlaces();
        Checks.due("slope(0, 3, 4)", () -> roof.slope(0, 3, 4), true);
        Checks.due("slope(0, 15, 20)", () -> roof.slope(0, 15, 20), false);
        Checks.due("slope(0, 4, 3)", () -> roof.slope(0, 4, 3), true);
        Checks.due("slope(3, 1, 20)", () -> roof.slope(3, 1, 20), true);
        Checks.due("slope(3, 20, 1)", () -> roof.slope(3, 20, 1), true);
        Checks.compare("slope of 0", Checks.tangent(roof, 0, 0, 0), "4/3");
        Checks.compare("slope of 1", Checks.tangent(roof, 1, 0, 0), "1/1");
        Checks.compare("slope of 2", Checks.tangent(roof, 2, 0, 0), "1/1");
        Checks.compare("slope of 3", Checks.tangent(roof, 3, 0, 0), "20/1");
        Checks.due("gable(3)", () -> roof.gable(3), true);
        Checks.due("slope(3, 20, 1) of a gable", () -> roof.slope(3, 20, 1), true);
        Checks.compare("no gable then", Checks.tangent(roof, 3, 0, 0), "20/1");
        long[] wrong = {Long.MIN_VALUE, -1, 0, 21, (1L << 32) + 1, Long.MAX_VALUE};
        String before = Checks.state(roof);
        for (long number : wrong) {
            Checks.raises("slope(1, " + number + ", 5)", () -> roof.slope(1, number, 5),
                    IllegalArgumentException.class);
            Checks.raises("slope(1, 5, " + number + ")", () -> roof.slope(1, 5, number),
                    IllegalArgumentException.class);
            Checks.raises("slope(4, 5, " + number + ")", () -> roof.slope(4, 5, number),
                    ArrayIndexOutOfBoundsException.class);
        }
        for (int side : new int[] {Integer.MIN_VALUE, -1, 4, Integer.MAX_VALUE}) {
            Checks.raises("slope(" + side + ", 2, 3)", () -> roof.slope(side, 2, 3),
                    ArrayIndexOutOfBoundsException.class);
        }
        Checks.compare("nothing has changed", Checks.state(roof), before);
        roof.gable(1);
        Checks.raises("slope(1, 0, 1) of a gable", () -> roof.slope(1, 0, 1),
                IllegalArgumentException.class);
        Checks.due("it is a gable yet", () -> roof.gable(1), false);
    }

    private static void gable() {
        for (int kept = 0; kept < 4; kept++) {
            RafterPlaces roof = new RafterPlaces();
            int last = kept;
            for (int side = 0; side < 4; side++) {
                int one = side;
                if (side != kept) {
                    Checks.due("gable(" + side + ")", () -> roof.gable(one), true);
                    Checks.due("gable(" + side + ") again", () -> roof.gable(one), false);
                }
            }
            String before = Checks.state(roof);
            Checks.raises("gable(" + kept + "), the last", () -> roof.gable(last),
                    IllegalStateException.class);
            Checks.compare("nothing has changed", Checks.state(roof), before);
            int first = (kept + 1) % 4;
            Checks.due("a gable again, the last kept", () -> roof.gable(first), false);
            roof.slope(first, 2, 5);
            Checks.due("gable(" + kept + "), not the last", () -> roof.gable(last), true);
        }
        RafterPlaces roof = new RafterPlaces();
        for (int side : new int[] {Integer.MIN_VALUE, -1, 4, Integer.MAX_VALUE}) {
            Checks.raises("gable(" + side + ")", () -> roof.gable(side),
                    ArrayIndexOutOfBoundsException.class);
        }
        Checks.compare("nothing has changed", Checks.state(roof), Checks.state(new RafterPlaces()));
    }
}
