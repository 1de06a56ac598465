/** The sentences of promises 13 to 17, each at the ends of its ranges and just beyond them. */
public final class PromisesRidgeTest {
    private static final Calls NEW = Calls.after();
    /** 12 by 9, the ridge from 4, 6 to 10, 6, and 6 high. */
    private static final Calls ROOF = Calls.after("outline(12, 9)", "slope(1, 3, 1)",
            "slope(2, 2, 1)", "slope(3, 3, 2)");
    /** 3 by 1, all slopes 1 / 2. */
    private static final Calls HALVES = Calls.after("outline(3, 1)", "slope(0, 1, 2)",
            "slope(1, 1, 2)", "slope(2, 1, 2)", "slope(3, 1, 2)");
    private static final String FRACTION = "numerator (part = 0), denominator (1).";

    public static void main(String[] args) {
        hip(Sentences.under("Promise 13: hip"));
        peak(Sentences.under("Promise 14: peak"));
        ridge(Sentences.under("Promise 15: ridge"));
        area(Sentences.under("Promise 16: area"));
        batten(Sentences.under("Promise 17: batten"));
        Checks.finish();
    }

    private static void hip(Sentences promise) {
        promise.test("How far a hip goes in from side k (what = 0), from side k + 1 (1): "
                + FRACTION, () -> {
            int[] in = {6, 2, 3, 4};
            for (int k = 0; k < 4; k++) {
                ROOF.due("hip(" + k + ", 0, 0)", in[k]);
                ROOF.due("hip(" + k + ", 0, 1)", 1);
                ROOF.due("hip(" + k + ", 1, 0)", in[(k + 1) % 4]);
                ROOF.due("hip(" + k + ", 1, 1)", 1);
                HALVES.due("hip(" + k + ", 0, 0)", 1);
                HALVES.due("hip(" + k + ", 1, 1)", 2);
            }
            Calls least = Calls.after("outline(1, 1)", "slope(0, 20, 1)", "slope(1, 1, 20)",
                    "slope(2, 1, 20)", "slope(3, 1, 20)");
            least.due("hip(0, 0, 0)", 1);
            least.due("hip(0, 0, 1)", 800);
            least.due("hip(0, 1, 0)", 1);
            least.due("hip(0, 1, 1)", 2);
            Calls greatest = Calls.after("outline(2000, 2000)", "gable(2)", "gable(3)");
            greatest.due("hip(0, 0, 0)", 2000);
            greatest.due("hip(0, 1, 1)", 1);
        });
        promise.test("ArrayIndexOutOfBoundsException: also of what;", () -> {
            Calls gabled = NEW.then("gable(0)");
            for (int k = 0; k < 4; k++) {
                NEW.dueForEach("hip(" + k + ", ?, 0)", Beyond.index(2), Calls.INDEX);
                NEW.dueForEach("hip(" + k + ", 0, ?)", Beyond.index(2), Calls.INDEX);
                gabled.dueForEach("hip(" + k + ", ?, 1)", Beyond.index(2), Calls.INDEX);
                gabled.dueForEach("hip(" + k + ", 1, ?)", Beyond.index(2), Calls.INDEX);
            }
            NEW.dueForEach("hip(?, 0, 0)", Beyond.index(4), Calls.INDEX);
            NEW.dueForEach("hip(?, 1, 1)", Beyond.index(4), Calls.INDEX);
            gabled.dueForEach("hip(?, 2, 2)", Beyond.index(4), Calls.INDEX);
        });
        promise.test("IllegalStateException: there is none.", () -> {
            for (int gable = 0; gable < 4; gable++) {
                Calls gabled = NEW.then("gable(" + gable + ")");
                int before = (gable + 3) % 4;
                for (String rest : new String[] {"0, 0)", "0, 1)", "1, 0)", "1, 1)"}) {
                    gabled.due("hip(" + gable + ", " + rest, Calls.STATE);
                    gabled.due("hip(" + before + ", " + rest, Calls.STATE);
                }
                gabled.due("hip(" + (gable + 1) % 4 + ", 0, 1)", 1);
                gabled.due("hip(" + (gable + 2) % 4 + ", 1, 1)", 1);
            }
        });
    }

    private static void peak(Sentences promise) {
        promise.test("THE PEAK: " + FRACTION, () -> {
            ROOF.due("peak(0)", 6);
            ROOF.due("peak(1)", 1);
            HALVES.due("peak(0)", 1);
            HALVES.due("peak(1)", 4);
            Calls.after("outline(1, 2000)").due("peak(0)", 1);
            Calls.after("outline(1, 2000)").due("peak(1)", 2);
            Calls.after("outline(2000, 1)").due("peak(1)", 2);
            for (int side = 0; side < 4; side++) {
                Calls steep = Calls.after("outline(2000, 2000)", "slope(" + side + ", 20, 1)")
                        .thenOnly(side);
                steep.due("peak(0)", 40000);
                steep.due("peak(1)", 1);
                Calls flat = Calls.after("outline(1, 1)", "slope(" + side + ", 1, 20)")
                        .thenOnly(side);
                flat.due("peak(0)", 1);
                flat.due("peak(1)", 20);
            }
        });
        promise.test("ArrayIndexOutOfBoundsException.", () -> {
            NEW.dueForEach("peak(?)", Beyond.index(2), Calls.INDEX);
            NEW.thenOnly(3).dueForEach("peak(?)", Beyond.index(2), Calls.INDEX);
        });
    }

    private static void ridge(Sentences promise) {
        promise.test("THE RIDGE's least x (what = 0), greatest x (1), least y (2), greatest y (3): "
                + FRACTION, () -> {
            int[] wholes = {4, 10, 6, 6};
            int[] halves = {1, 5, 1, 1};
            int[] ofSide1 = {0, 0, 0, 2000};
            Calls side1 = Calls.after("outline(2000, 2000)").thenOnly(1);
            for (int what = 0; what < 4; what++) {
                ROOF.due("ridge(" + what + ", 0)", wholes[what]);
                ROOF.due("ridge(" + what + ", 1)", 1);
                HALVES.due("ridge(" + what + ", 0)", halves[what]);
                HALVES.due("ridge(" + what + ", 1)", 2);
                side1.due("ridge(" + what + ", 0)", ofSide1[what]);
                side1.due("ridge(" + what + ", 1)", 1);
            }
        });
        promise.test("ArrayIndexOutOfBoundsException: also of what.", () -> {
            for (int part = 0; part < 2; part++) {
                NEW.dueForEach("ridge(?, " + part + ")", Beyond.index(4), Calls.INDEX);
            }
            for (int what = 0; what < 4; what++) {
                NEW.dueForEach("ridge(" + what + ", ?)", Beyond.index(2), Calls.INDEX);
            }
            NEW.dueForEach("ridge(?, 2)", Beyond.index(4), Calls.INDEX);
        });
    }

    private static void area(Sentences promise) {
        promise.test("Twice the AREA of a side: " + FRACTION, () -> {
            // On 12 by 9: (12 + 6) * 6, 9 * 2, (12 + 6) * 3, 9 * 4.
            int[] twice = {108, 18, 54, 36};
            for (int side = 0; side < 4; side++) {
                ROOF.due("area(" + side + ", 0)", twice[side]);
                ROOF.due("area(" + side + ", 1)", 1);
                HALVES.due("area(" + side + ", 0)", side % 2 == 0 ? 5 : 1);
                HALVES.due("area(" + side + ", 1)", 2);
                Calls whole = Calls.after("outline(2000, 2000)").thenOnly(side);
                whole.due("area(" + side + ", 0)", 8000000);
                whole.due("area(" + side + ", 1)", 1);
            }
        });
        promise.test("ArrayIndexOutOfBoundsException;", () -> {
            NEW.dueForEach("area(?, 0)", Beyond.index(4), Calls.INDEX);
            NEW.dueForEach("area(?, 2)", Beyond.index(4), Calls.INDEX);
            for (int side = 0; side < 4; side++) {
                NEW.dueForEach("area(" + side + ", ?)", Beyond.index(2), Calls.INDEX);
                NEW.then("gable(" + side + ")").dueForEach("area(" + side + ", ?)",
                        Beyond.index(2), Calls.INDEX);
            }
        });
        promise.test("IllegalStateException.", () -> {
            for (int side = 0; side < 4; side++) {
                Calls gable = NEW.then("gable(" + side + ")");
                gable.due("area(" + side + ", 0)", Calls.STATE);
                gable.due("area(" + side + ", 1)", Calls.STATE);
                gable.due("area(" + (side + 1) % 4 + ", 1)", 1);
                NEW.thenOnly((side + 2) % 4).due("area(" + side + ", 0)", Calls.STATE);
            }
        });
    }

    private static void batten(Sentences promise) {
        promise.test("How many rows of BATTENS a side has.", () -> {
            // 6 high at slopes 1, 3, 2, 3 / 2: 8.49, 6.32, 6.71, 7.21 up the slope.
            int[] rows = {8, 6, 6, 7};
            for (int side = 0; side < 4; side++) {
                ROOF.due("batten(" + side + ", 1)", rows[side]);
                ROOF.due("batten(" + side + ", " + rows[side] + ")", 1);
                ROOF.due("batten(" + side + ", " + (rows[side] + 1) + ")", 0);
                ROOF.due("batten(" + side + ", 10000)", 0);
                HALVES.due("batten(" + side + ", 1)", 0);
                Calls steep = Calls.after("outline(2000, 2000)", "slope(" + side + ", 20, 1)")
                        .thenOnly(side);
                steep.due("batten(" + side + ", 1)", 40049);
                steep.due("batten(" + side + ", 10000)", 4);
            }
        });
        promise.test("ArrayIndexOutOfBoundsException;", () -> {
            for (String call : new String[] {"batten(?, 1)", "batten(?, 0)", "batten(?, 10001)"}) {
                NEW.dueForEach(call, Beyond.index(4), Calls.INDEX);
            }
        });
        promise.test("IllegalStateException;", () -> {
            for (int side = 0; side < 4; side++) {
                for (long spacing : new long[] {1, 10000, 0, 10001}) {
                    String call = "batten(" + side + ", " + spacing + ")";
                    NEW.then("gable(" + side + ")").due(call, Calls.STATE);
                    NEW.thenOnly((side + 1) % 4).due(call, Calls.STATE);
                }
            }
        });
        promise.test("IllegalArgumentException: spacing is not 1 .. 10000.", () -> {
            for (int side = 0; side < 4; side++) {
                NEW.dueForEach("batten(" + side + ", ?)", Beyond.range(1, 10000), Calls.ARGUMENT);
                NEW.due("batten(" + side + ", 1)", 424);
                NEW.due("batten(" + side + ", 10000)", 0);
            }
        });
    }
}
