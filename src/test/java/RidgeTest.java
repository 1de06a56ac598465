/** Promises 13 to 17: hip, peak, ridge, area, batten. */
public final class RidgeTest {
    public static void main(String[] args) {
        mixedSlopes();
        ridgeAcross();
        pyramid();
        gables();
        battens();
        wrongInputs();
        Checks.finish();
    }

    private static RafterPlaces mixed() {
        RafterPlaces roof = new RafterPlaces();
        roof.slope(0, 3, 4);
        roof.slope(1, 2, 1);
        roof.slope(2, 7, 5);
        return roof;
    }

    private static void roofDue(RafterPlaces roof, String peak, String ridge, String... areas) {
        Checks.compare("peak", Checks.peak(roof), peak);
        Checks.compare("ridge", Checks.ridge(roof), ridge);
        for (int side = 0; side < 4; side++) {
            Checks.compare("area of " + side, Checks.area(roof, side), areas[side]);
        }
    }

    private static void hipsDue(RafterPlaces roof, String... hips) {
        for (int k = 0; k < 4; k++) {
            Checks.compare("hip " + k, Checks.hip(roof, k), hips[k]);
        }
    }

    private static final String THROWS = "throws IllegalStateException";

    private static void mixedSlopes() {
        RafterPlaces roof = mixed();
        roofDue(roof, "12600/43", "12600/43 36700/43 16800/43 16800/43",
                "1127280000/1849", "3780000/43", "603900000/1849", "7560000/43");
        hipsDue(roof, "16800/43 6300/43", "6300/43 9000/43", "9000/43 12600/43",
                "12600/43 16800/43");
    }

    private static void ridgeAcross() {
        RafterPlaces roof = new RafterPlaces();
        roof.outline(10, 2000);
        roof.slope(1, 1, 4);
        roofDue(roof, "2/1", "2/1 2/1 2/1 1998/1", "20/1", "31968/1", "20/1", "7992/1");
        hipsDue(roof, "2/1 8/1", "8/1 2/1", "2/1 2/1", "2/1 2/1");
    }

    private static void pyramid() {
        RafterPlaces roof = new RafterPlaces();
        roof.outline(1, 1);
        roofDue(roof, "1/2", "1/2 1/2 1/2 1/2", "1/2", "1/2", "1/2", "1/2");
        hipsDue(roof, "1/2 1/2", "1/2 1/2", "1/2 1/2", "1/2 1/2");
    }

    private static void gables() {
        RafterPlaces roof = new RafterPlaces();
        roof.outline(100, 60);
        roof.gable(1);
        roofDue(roof, "30/1", "30/1 100/1 30/1 30/1", "5100/1", THROWS, "5100/1", "1800/1");
        hipsDue(roof, THROWS, THROWS, "30/1 30/1", "30/1 30/1");
        roof.gable(3);
        roofDue(roof, "30/1", "0/1 100/1 30/1 30/1", "6000/1", THROWS, "6000/1", THROWS);
        hipsDue(roof, THROWS, THROWS, THROWS, THROWS);
        roof.gable(2);
        roofDue(roof, "60/1", "0/1 100/1 60/1 60/1", "12000/1", THROWS, THROWS, THROWS);
        RafterPlaces corner = new RafterPlaces();
        corner.outline(100, 60);
        corner.gable(0);
        corner.gable(3);
        roofDue(corner, "60/1", "0/1 40/1 0/1 0/1", THROWS, "3600/1", "8400/1", THROWS);
        hipsDue(corner, THROWS, "60/1 60/1", THROWS, THROWS);
        RafterPlaces three = new RafterPlaces();
        three.outline(100, 60);
        three.gable(0);
        roofDue(three, "50/1", "50/1 50/1 0/1 10/1", THROWS, "3500/1", "5000/1", "3500/1");
        hipsDue(three, THROWS, "50/1 50/1", "50/1 50/1", THROWS);
        three.slope(0, 1, 1);
        hipsDue(three, "30/1 30/1", "30/1 30/1", "30/1 30/1", "30/1 30/1");
    }

    private static void battensDue(RafterPlaces roof, int side, long spacing, int rows) {
        Checks.due("batten(" + side + ", " + spacing + ")", () -> roof.batten(side, spacing), rows);
    }

    private static void battens() {
        RafterPlaces roof = new RafterPlaces();
        battensDue(roof, 0, 1, 424);
        battensDue(roof, 0, 30, 14);
        battensDue(roof, 0, 424, 1);
        battensDue(roof, 0, 425, 0);
        battensDue(roof, 3, 10000, 0);
        roof.outline(1000, 48);
        roof.slope(0, 3, 4);
        roof.slope(2, 3, 4);
        // The peak is 18 high, the way up to it 30 long: the row at 30 lies on it, and counts.
        battensDue(roof, 0, 30, 1);
        battensDue(roof, 0, 15, 2);
        battensDue(roof, 0, 31, 0);
        battensDue(roof, 2, 10, 3);
        battensDue(roof, 1, 1, 25);
        RafterPlaces slopes = mixed();
        battensDue(slopes, 0, 30, 16);
        battensDue(slopes, 1, 30, 10);
        battensDue(slopes, 2, 30, 12);
        RafterPlaces steep = new RafterPlaces();
        steep.outline(2000, 2000);
        steep.slope(0, 20, 1);
        steep.gable(1);
        steep.gable(2);
        steep.gable(3);
        battensDue(steep, 0, 1, 40049);
    }

    private static void wrongInputs() {
        Class<ArrayIndexOutOfBoundsException> index = ArrayIndexOutOfBoundsException.class;
        Class<IllegalStateException> state = IllegalStateException.class;
        RafterPlaces roof = mixed();
        roof.gable(1);
        for (int wrong : new int[] {Integer.MIN_VALUE, -1, 4, Integer.MAX_VALUE}) {
            Checks.raises("k of hip", () -> roof.hip(wrong, 0, 0), index);
            Checks.raises("what of hip", () -> roof.hip(2, wrong, 0), index);
            Checks.raises("part of hip", () -> roof.hip(2, 0, wrong), index);
            Checks.raises("what of no hip", () -> roof.hip(0, wrong, 0), index);
            Checks.raises("part of no hip", () -> roof.hip(1, 0, wrong), index);
            Checks.raises("part of peak", () -> roof.peak(wrong), index);
            Checks.raises("what of ridge", () -> roof.ridge(wrong, 0), index);
            Checks.raises("part of ridge", () -> roof.ridge(0, wrong), index);
            Checks.raises("side of area", () -> roof.area(wrong, 0), index);
            Checks.raises("part of area", () -> roof.area(0, wrong), index);
            Checks.raises("part of a gable's area", () -> roof.area(1, wrong), index);
            Checks.raises("side of batten", () -> roof.batten(wrong, 1), index);
            Checks.raises("side and spacing of batten", () -> roof.batten(wrong, 0), index);
        }
        for (int what : new int[] {-1, 2, 3}) {
            Checks.raises("what " + what + " of hip", () -> roof.hip(2, what, 0), index);
            Checks.raises("part " + what + " of hip", () -> roof.hip(2, 0, what), index);
            Checks.raises("part " + what + " of peak", () -> roof.peak(what), index);
            Checks.raises("part " + what + " of ridge", () -> roof.ridge(0, what), index);
            Checks.raises("part " + what + " of area", () -> roof.area(0, what), index);
        }
        for (long spacing : new long[] {Long.MIN_VALUE, -1, 0, 10001, 1L << 32}) {
            Checks.raises("batten by " + spacing, () -> roof.batten(0, spacing),
                    IllegalArgumentException.class);
            Checks.raises("gable's batten by " + spacing, () -> roof.batten(1, spacing), state);
        }
        Checks.raises("gable's batten", () -> roof.batten(1, 1), state);
        RafterPlaces same = mixed();
        same.gable(1);
        Checks.compare("nothing has changed", Checks.state(roof), Checks.state(same));
    }
}
