/** Promises 7 to 12: rafter, end, against, length, tangent, mouth. */
public final class RafterTest {
    public static void main(String[] args) {
        rafters();
        ends();
        endsAtGables();
        lengths();
        tangents();
        mouths();
        wrongInputs();
        Checks.finish();
    }

    private static RafterPlaces roof(long length, long wide) {
        RafterPlaces roof = new RafterPlaces();
        roof.outline(length, wide);
        return roof;
    }

    private static void rafters() {
        RafterPlaces roof = roof(90, 40);
        int[] along = {91, 31, 4, 2, 1, 1};
        int[] across = {41, 14, 2, 1, 1, 1};
        long[] spacings = {1, 3, 30, 90, 91, 10000};
        for (int i = 0; i < spacings.length; i++) {
            long spacing = spacings[i];
            Checks.due("rafter(0, " + spacing + ")", () -> roof.rafter(0, spacing), along[i]);
            Checks.due("rafter(2, " + spacing + ")", () -> roof.rafter(2, spacing), along[i]);
            Checks.due("rafter(1, " + spacing + ")", () -> roof.rafter(1, spacing), across[i]);
            Checks.due("rafter(3, " + spacing + ")", () -> roof.rafter(3, spacing), across[i]);
        }
    }

    private static void rafterDue(RafterPlaces roof, int side, long t, String end, int against) {
        String call = "side " + side + " at " + t;
        Checks.compare("end of " + call, Checks.end(roof, side, t), end);
        Checks.due("against of " + call, () -> roof.against(side, t), against);
    }

    private static void ends() {
        RafterPlaces roof = roof(100, 60);
        rafterDue(roof, 0, 0, "0/1", 3);
        rafterDue(roof, 0, 100, "0/1", 1);
        rafterDue(roof, 0, 29, "29/1", 3);
        rafterDue(roof, 0, 30, "30/1", 2);
        rafterDue(roof, 0, 31, "30/1", 2);
        rafterDue(roof, 0, 70, "30/1", 1);
        rafterDue(roof, 2, 30, "30/1", 0);
        rafterDue(roof, 2, 71, "29/1", 1);
        rafterDue(roof, 1, 0, "0/1", 0);
        rafterDue(roof, 1, 60, "0/1", 2);
        rafterDue(roof, 1, 30, "30/1", 0);
        rafterDue(roof, 3, 31, "29/1", 2);
        roof.slope(0, 3, 4);
        roof.slope(1, 2, 1);
        roof.slope(2, 7, 5);
        rafterDue(roof, 0, 50, "1680/43", 2);
        rafterDue(roof, 0, 3, "4/1", 3);
        rafterDue(roof, 0, 99, "8/3", 1);
        rafterDue(roof, 2, 50, "900/43", 0);
        rafterDue(roof, 1, 4, "3/2", 0);
        rafterDue(roof, 1, 55, "7/2", 2);
        rafterDue(roof, 3, 4, "3/1", 0);
    }

    private static void endsAtGables() {
        RafterPlaces roof = roof(100, 60);
        roof.gable(2);
        rafterDue(roof, 0, 50, "50/1", 1);
        rafterDue(roof, 0, 60, "40/1", 1);
        roof.gable(1);
        rafterDue(roof, 0, 50, "50/1", 3);
        rafterDue(roof, 0, 60, "60/1", 2);
        rafterDue(roof, 0, 100, "60/1", 2);
        rafterDue(roof, 3, 60, "60/1", 0);
        Checks.compare("cut at side 2", Checks.tangent(roof, 0, 60, 2), "0/1");
        roof.gable(3);
        rafterDue(roof, 0, 0, "60/1", 2);
        rafterDue(roof, 0, 100, "60/1", 2);
        RafterPlaces least = roof(100, 60);
        least.gable(2);
        rafterDue(least, 0, 40, "40/1", 3);
        least.slope(1, 3, 2);
        rafterDue(least, 0, 60, "60/1", 1);
        Checks.compare("cut at plane 1", Checks.tangent(least, 0, 60, 2), "2/3");
    }

    private static void lengthDue(RafterPlaces roof, int side, long t, long cutOff, long above) {
        String call = "length of side " + side + " at " + t;
        Checks.due(call + ", cut off", () -> roof.length(side, t, 0), cutOff);
        Checks.due(call + ", not below it", () -> roof.length(side, t, 1), above);
    }

    private static void lengths() {
        RafterPlaces roof = roof(1000, 600);
        lengthDue(roof, 0, 0, 0, 0);
        lengthDue(roof, 0, 1, 1, 2);
        lengthDue(roof, 0, 100, 141, 142);
        lengthDue(roof, 2, 500, 424, 425);
        roof.slope(0, 3, 4);
        lengthDue(roof, 0, 3, 5, 5);
        lengthDue(roof, 0, 6, 10, 10);
        lengthDue(roof, 0, 1, 1, 2);
        lengthDue(roof, 0, 500, 428, 429);
        RafterPlaces steep = roof(2000, 2000);
        steep.slope(0, 20, 1);
        steep.gable(1);
        steep.gable(2);
        steep.gable(3);
        lengthDue(steep, 0, 7, 40049, 40050);
    }

    private static void tangents() {
        RafterPlaces roof = roof(100, 60);
        roof.slope(0, 6, 8);
        roof.slope(1, 2, 1);
        roof.slope(2, 7, 5);
        roof.slope(3, 10, 12);
        String[] slopes = {"3/4", "2/1", "7/5", "5/6"};
        String[] seats = {"4/3", "1/2", "5/7", "6/5"};
        for (int side = 0; side < 4; side++) {
            Checks.compare("foot of " + side, Checks.tangent(roof, side, 5, 0), slopes[side]);
            Checks.compare("seat of " + side, Checks.tangent(roof, side, 5, 1), seats[side]);
        }
        Checks.compare("0 against 3", Checks.tangent(roof, 0, 0, 2), "9/10");
        Checks.compare("0 against 1", Checks.tangent(roof, 0, 100, 2), "3/8");
        Checks.compare("0 against 2", Checks.tangent(roof, 0, 50, 2), "0/1");
        Checks.compare("2 against 3", Checks.tangent(roof, 2, 0, 2), "42/25");
        Checks.compare("1 against 2", Checks.tangent(roof, 1, 60, 2), "10/7");
        Checks.compare("3 against 0", Checks.tangent(roof, 3, 0, 2), "10/9");
    }

    private static void mouths() {
        RafterPlaces roof = roof(100, 60);
        roof.slope(0, 20, 6);
        Checks.compare("mouth(0, 0)", Checks.mouth(roof, 0, 0), "0/1");
        Checks.compare("mouth(0, 4)", Checks.mouth(roof, 0, 4), "6/5");
        Checks.compare("mouth(0, 1000)", Checks.mouth(roof, 0, 1000), "300/1");
        Checks.compare("mouth(1, 1000)", Checks.mouth(roof, 1, 1000), "1000/1");
    }

    private static void wrongInputs() {
        Class<ArrayIndexOutOfBoundsException> index = ArrayIndexOutOfBoundsException.class;
        Class<IllegalStateException> state = IllegalStateException.class;
        Class<IllegalArgumentException> argument = IllegalArgumentException.class;
        RafterPlaces roof = roof(100, 60);
        roof.gable(2);
        for (long t : new long[] {Long.MIN_VALUE, -1, 101, 1L << 32, Long.MAX_VALUE}) {
            Checks.raises("end at " + t, () -> roof.end(0, t, 0), argument);
            Checks.raises("against at " + t, () -> roof.against(0, t), argument);
            Checks.raises("length at " + t, () -> roof.length(0, t, 0), argument);
            Checks.raises("tangent at " + t, () -> roof.tangent(0, t, 0, 0), argument);
            Checks.raises("gable's end at " + t, () -> roof.end(2, t, 0), state);
            Checks.raises("gable's against at " + t, () -> roof.against(2, t), state);
            Checks.raises("gable's length at " + t, () -> roof.length(2, t, 0), state);
            Checks.raises("gable's tangent at " + t, () -> roof.tangent(2, t, 0, 0), state);
            Checks.raises("part 2 of a gable's end at " + t, () -> roof.end(2, t, 2), index);
            Checks.raises("end 2 of a gable's length at " + t, () -> roof.length(2, t, 2), index);
            Checks.raises("cut 3 of a gable at " + t, () -> roof.tangent(2, t, 3, 0), index);
            Checks.raises("part 2 of a gable at " + t, () -> roof.tangent(2, t, 0, 2), index);
        }
        Checks.raises("t beyond side 1", () -> roof.end(1, 61, 0), argument);
        for (long spacing : new long[] {Long.MIN_VALUE, -1, 0, 10001, 1L << 32}) {
            Checks.raises("rafter by " + spacing, () -> roof.rafter(0, spacing), argument);
            Checks.raises("gable's rafter by " + spacing, () -> roof.rafter(2, spacing), state);
            Checks.raises("rafter of side 4", () -> roof.rafter(4, spacing), index);
        }
        for (long depth : new long[] {Long.MIN_VALUE, -1, 1001, 1L << 32}) {
            Checks.raises("mouth of " + depth, () -> roof.mouth(0, depth, 0), argument);
            Checks.raises("gable's mouth of " + depth, () -> roof.mouth(2, depth, 0), state);
            Checks.raises("gable's mouth, part 2", () -> roof.mouth(2, depth, 2), index);
        }
        for (int wrong : new int[] {Integer.MIN_VALUE, -1, 4, Integer.MAX_VALUE}) {
            Checks.raises("side of rafter", () -> roof.rafter(wrong, 1), index);
            Checks.raises("side of end", () -> roof.end(wrong, 1, 0), index);
            Checks.raises("part of end", () -> roof.end(0, 1, wrong), index);
            Checks.raises("side of against", () -> roof.against(wrong, 1), index);
            Checks.raises("side of length", () -> roof.length(wrong, 1, 0), index);
            Checks.raises("end of length", () -> roof.length(0, 1, wrong), index);
            Checks.raises("side of tangent", () -> roof.tangent(wrong, 1, 0, 0), index);
            Checks.raises("cut of tangent", () -> roof.tangent(0, 1, wrong, 0), index);
            Checks.raises("part of tangent", () -> roof.tangent(0, 1, 0, wrong), index);
            Checks.raises("side of mouth", () -> roof.mouth(wrong, 1, 0), index);
            Checks.raises("part of mouth", () -> roof.mouth(0, 1, wrong), index);
        }
        RafterPlaces same = roof(100, 60);
        same.gable(2);
        Checks.compare("nothing has changed", Checks.state(roof), Checks.state(same));
    }
}
