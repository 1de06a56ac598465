/** The sentences of promises 7 to 12, each at the ends of its ranges and just beyond them. */
public final class PromisesRafterTest {
    private static final Calls SMALL = Calls.after("outline(9, 4)");
    private static final String FRACTION = "numerator (part = 0), denominator (1).";

    public static void main(String[] args) {
        rafter(Sentences.under("Promise 7: rafter"));
        end(Sentences.under("Promise 8: end"));
        against(Sentences.under("Promise 9: against"));
        length(Sentences.under("Promise 10: length"));
        tangent(Sentences.under("Promise 11: tangent"));
        mouth(Sentences.under("Promise 12: mouth"));
        Checks.finish();
    }

    /** Calls with a ? for the side: no other number of theirs may matter. */
    private static void noSide(String... calls) {
        for (String call : calls) {
            SMALL.dueForEach(call, Beyond.index(4), Calls.INDEX);
        }
    }

    private static void gablesRefuse(String... calls) {
        for (int side = 0; side < 4; side++) {
            for (String call : calls) {
                String ofSide = call.replace("?", String.valueOf(side));
                SMALL.then("gable(" + side + ")").due(ofSide, Calls.STATE);
                SMALL.thenOnly((side + 1) % 4).due(ofSide, Calls.STATE);
            }
        }
    }

    /** Calls with a side for s and a ? for t. */
    private static void tIsOnTheSide(String call) {
        for (int side = 0; side < 4; side++) {
            long length = side % 2 == 0 ? 9 : 4;
            String ofSide = call.replace("s,", side + ",");
            SMALL.dueForEach(ofSide, Beyond.range(0, length), Calls.ARGUMENT);
            for (long t : new long[] {0, length}) {
                String got = SMALL.outcome(ofSide.replace("?", String.valueOf(t)));
                Checks.compare(ofSide + " at " + t + " = " + got + " is an answer",
                        String.valueOf(got.matches("[0-9]+")), "true");
            }
        }
    }

    private static void rafter(Sentences promise) {
        promise.test("How many RAFTERS a side has by a SPACING.", () -> {
            SMALL.due("rafter(0, 1)", 10);
            SMALL.due("rafter(2, 9)", 2);
            SMALL.due("rafter(2, 10)", 1);
            SMALL.due("rafter(1, 1)", 5);
            SMALL.due("rafter(3, 4)", 2);
            SMALL.due("rafter(3, 5)", 1);
            Calls large = Calls.after("outline(2000, 2000)");
            for (int side = 0; side < 4; side++) {
                large.due("rafter(" + side + ", 1)", 2001);
                large.due("rafter(" + side + ", 2000)", 2);
                large.due("rafter(" + side + ", 2001)", 1);
                large.due("rafter(" + side + ", 10000)", 1);
            }
        });
        promise.test("ArrayIndexOutOfBoundsException;",
                () -> noSide("rafter(?, 1)", "rafter(?, 0)", "rafter(?, 10001)"));
        promise.test("IllegalStateException;",
                () -> gablesRefuse("rafter(?, 1)", "rafter(?, 10000)", "rafter(?, 0)"));
        promise.test("IllegalArgumentException: spacing is not 1 .. 10000.", () -> {
            for (int side = 0; side < 4; side++) {
                SMALL.dueForEach("rafter(" + side + ", ?)", Beyond.range(1, 10000),
                        Calls.ARGUMENT);
                SMALL.due("rafter(" + side + ", 10000)", 1);
                SMALL.due("rafter(" + side + ", 1)", side % 2 == 0 ? 10 : 5);
            }
        });
    }

    private static void end(Sentences promise) {
        promise.test("A rafter's END: " + FRACTION, () -> {
            SMALL.due("end(0, 0, 0)", 0);
            SMALL.due("end(0, 0, 1)", 1);
            SMALL.due("end(0, 9, 0)", 0);
            SMALL.due("end(0, 9, 1)", 1);
            SMALL.due("end(0, 4, 0)", 2);
            SMALL.due("end(0, 4, 1)", 1);
            Calls odd = Calls.after("outline(1, 2000)", "slope(1, 20, 19)");
            odd.due("end(1, 1000, 0)", 19);
            odd.due("end(1, 1000, 1)", 39);
            odd.due("end(3, 1000, 0)", 20);
            odd.due("end(3, 1000, 1)", 39);
            Calls whole = Calls.after("outline(2000, 2000)").thenOnly(3);
            whole.due("end(3, 2000, 0)", 2000);
            whole.due("end(3, 2000, 1)", 1);
        });
        promise.test("ArrayIndexOutOfBoundsException;", () -> {
            noSide("end(?, 0, 0)", "end(?, -1, 2)");
            SMALL.dueForEach("end(0, 0, ?)", Beyond.index(2), Calls.INDEX);
            SMALL.dueForEach("end(0, 10, ?)", Beyond.index(2), Calls.INDEX);
            SMALL.then("gable(0)").dueForEach("end(0, 0, ?)", Beyond.index(2), Calls.INDEX);
        });
        promise.test("IllegalStateException;",
                () -> gablesRefuse("end(?, 0, 0)", "end(?, 4, 1)", "end(?, -1, 0)"));
        promise.test("IllegalArgumentException: t is not on the side.", () -> {
            tIsOnTheSide("end(s, ?, 0)");
            tIsOnTheSide("end(s, ?, 1)");
        });
    }

    private static void against(Sentences promise) {
        promise.test("The side that ends it.", () -> {
            int[][] ends = {{3, 1}, {0, 2}, {3, 1}, {0, 2}};
            for (int side = 0; side < 4; side++) {
                long length = side % 2 == 0 ? 9 : 4;
                SMALL.due("against(" + side + ", 0)", ends[side][0]);
                SMALL.due("against(" + side + ", " + length + ")", ends[side][1]);
                SMALL.thenOnly(side).due("against(" + side + ", 0)", (side + 2) % 4);
                SMALL.thenOnly(side).due("against(" + side + ", " + length + ")", (side + 2) % 4);
            }
            SMALL.due("against(0, 2)", 2);
            SMALL.due("against(0, 7)", 1);
            SMALL.due("against(2, 2)", 0);
            SMALL.due("against(1, 2)", 0);
            SMALL.due("against(3, 3)", 2);
        });
        promise.test("As end().", () -> {
            noSide("against(?, 0)", "against(?, -1)");
            gablesRefuse("against(?, 0)", "against(?, -1)", "against(?, 10)");
            tIsOnTheSide("against(s, ?)");
        });
    }

    private static void length(Sentences promise) {
        promise.test("Its LENGTH, cut off (end = 0), or not below it (1).", () -> {
            SMALL.due("length(0, 0, 0)", 0);
            SMALL.due("length(0, 0, 1)", 0);
            SMALL.due("length(0, 4, 0)", 2);
            SMALL.due("length(0, 4, 1)", 3);
            Calls whole = Calls.after("outline(1, 2000)", "slope(0, 3, 4)").thenOnly(0);
            whole.due("length(0, 1, 0)", 2500);
            whole.due("length(0, 1, 1)", 2500);
            Calls steep = Calls.after("outline(1, 2000)", "slope(0, 20, 1)").thenOnly(0);
            steep.due("length(0, 1, 0)", 40049);
            steep.due("length(0, 1, 1)", 40050);
            Calls least = Calls.after("slope(0, 20, 1)", "slope(3, 1, 20)");
            least.due("length(0, 1, 0)", 0);
            least.due("length(0, 1, 1)", 1);
        });
        promise.test("As end().", () -> {
            noSide("length(?, 0, 0)", "length(?, -1, 2)");
            SMALL.dueForEach("length(0, 0, ?)", Beyond.index(2), Calls.INDEX);
            SMALL.dueForEach("length(0, 10, ?)", Beyond.index(2), Calls.INDEX);
            SMALL.then("gable(0)").dueForEach("length(0, 0, ?)", Beyond.index(2), Calls.INDEX);
            gablesRefuse("length(?, 0, 0)", "length(?, 4, 1)", "length(?, -1, 0)");
            tIsOnTheSide("length(s, ?, 0)");
            tIsOnTheSide("length(s, ?, 1)");
        });
    }

    private static void tangent(Sentences promise) {
        promise.test("The TANGENT of its cut 0 .. 2: " + FRACTION, () -> {
            Calls roof = SMALL.then("slope(0, 20, 1)", "slope(3, 1, 20)");
            int[][] due = {{20, 1}, {1, 20}, {400, 1}};
            int[][] dueOf3 = {{1, 20}, {20, 1}, {1, 400}};
            for (int cut = 0; cut < 3; cut++) {
                for (int part = 0; part < 2; part++) {
                    String rest = ", 0, " + cut + ", " + part + ")";
                    roof.due("tangent(0" + rest, due[cut][part]);
                    roof.due("tangent(3" + rest, dueOf3[cut][part]);
                }
            }
            SMALL.due("tangent(0, 4, 2, 0)", 0);
            SMALL.due("tangent(0, 4, 2, 1)", 1);
            SMALL.due("tangent(0, 9, 2, 0)", 1);
            SMALL.due("tangent(0, 9, 2, 1)", 1);
        });
        promise.test("As end().", () -> {
            noSide("tangent(?, 0, 0, 0)", "tangent(?, -1, 3, 2)");
            long[] noCut = Beyond.index(3);
            long[] noPart = Beyond.index(2);
            for (long t : new long[] {0, 9, -1, 10}) {
                SMALL.dueForEach("tangent(0, " + t + ", ?, 0)", noCut, Calls.INDEX);
                SMALL.dueForEach("tangent(0, " + t + ", 2, ?)", noPart, Calls.INDEX);
                SMALL.then("gable(0)").dueForEach("tangent(0, " + t + ", ?, 1)", noCut,
                        Calls.INDEX);
                SMALL.then("gable(0)").dueForEach("tangent(0, " + t + ", 0, ?)", noPart,
                        Calls.INDEX);
            }
            gablesRefuse("tangent(?, 0, 0, 0)", "tangent(?, 4, 1, 1)", "tangent(?, -1, 2, 0)");
            for (int cut = 0; cut < 3; cut++) {
                tIsOnTheSide("tangent(s, ?, " + cut + ", 0)");
                tIsOnTheSide("tangent(s, ?, " + cut + ", 1)");
            }
        });
    }

    private static void mouth(Sentences promise) {
        promise.test("How long a MOUTH is: " + FRACTION, () -> {
            Calls roof = SMALL.then("slope(0, 20, 19)", "slope(1, 1, 20)", "slope(2, 20, 1)");
            roof.due("mouth(0, 0, 0)", 0);
            roof.due("mouth(0, 0, 1)", 1);
            roof.due("mouth(0, 1, 0)", 19);
            roof.due("mouth(0, 1, 1)", 20);
            roof.due("mouth(0, 1000, 0)", 950);
            roof.due("mouth(0, 1000, 1)", 1);
            roof.due("mouth(1, 1000, 0)", 20000);
            roof.due("mouth(1, 1000, 1)", 1);
            roof.due("mouth(2, 999, 0)", 999);
            roof.due("mouth(2, 999, 1)", 20);
            roof.due("mouth(3, 1000, 0)", 1000);
            roof.due("mouth(3, 1000, 1)", 1);
        });
        promise.test("ArrayIndexOutOfBoundsException;", () -> {
            noSide("mouth(?, 0, 0)", "mouth(?, -1, 2)", "mouth(?, 1001, 0)");
            SMALL.dueForEach("mouth(0, 1000, ?)", Beyond.index(2), Calls.INDEX);
            SMALL.dueForEach("mouth(0, 1001, ?)", Beyond.index(2), Calls.INDEX);
            SMALL.then("gable(0)").dueForEach("mouth(0, 0, ?)", Beyond.index(2), Calls.INDEX);
        });
        promise.test("IllegalStateException;",
                () -> gablesRefuse("mouth(?, 0, 0)", "mouth(?, 1000, 1)", "mouth(?, -1, 0)"));
        promise.test("IllegalArgumentException: depth is not 0 .. 1000.", () -> {
            for (int side = 0; side < 4; side++) {
                long[] beyond = Beyond.range(0, 1000);
                SMALL.dueForEach("mouth(" + side + ", ?, 0)", beyond, Calls.ARGUMENT);
                SMALL.dueForEach("mouth(" + side + ", ?, 1)", beyond, Calls.ARGUMENT);
                SMALL.due("mouth(" + side + ", 0, 0)", 0);
                SMALL.due("mouth(" + side + ", 1000, 0)", 1000);
            }
        });
    }
}
