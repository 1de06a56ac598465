/** The sentences of promises 1 to 6, each at the ends of its ranges and just beyond them. */
public final class PromisesRoofTest {
    private static final Calls NEW = Calls.after();
    private static final Calls SMALL = Calls.after("outline(9, 4)");

    public static void main(String[] args) {
        newObject(Sentences.under("Promise 1: A new object"));
        outline(Sentences.under("Promise 2: outline"));
        slope(Sentences.under("Promise 3: slope"));
        gable(Sentences.under("Promise 4: gable"));
        place(Sentences.under("Promise 5: place"));
        face(Sentences.under("Promise 6: face"));
        Checks.finish();
    }

    private static void newObject(Sentences promise) {
        promise.test("A roof over 1000 by 600,", () -> {
            NEW.due("outline(1000, 600)", false);
            NEW.due("face(1000, 0)", 0);
            NEW.due("face(1001, 0)", Calls.ARGUMENT);
            NEW.due("face(0, 600)", 2);
            NEW.due("face(0, 601)", Calls.ARGUMENT);
            NEW.fraction("peak(part)", "300/1");
        });
        promise.test("all four SIDES with the SLOPE 1 / 1.", () -> {
            for (int side = 0; side < 4; side++) {
                NEW.fraction("tangent(" + side + ", 0, 0, part)", "1/1");
                NEW.due("slope(" + side + ", 1, 1)", false);
                NEW.due("gable(" + side + ")", true);
            }
            // What happens to one roof is nothing to those made before and after it.
            String asNew = NEW.state();
            RafterPlaces before = new RafterPlaces();
            RafterPlaces other = new RafterPlaces();
            other.outline(1, 1);
            other.slope(0, 20, 1);
            other.gable(1);
            Checks.compare("one made before another", Checks.state(before), asNew);
            Checks.compare("one made after another", NEW.state(), asNew);
        });
    }

    private static void outline(Sentences promise) {
        promise.test("THE OUTLINE: whether it is another one.", () -> {
            NEW.due("outline(1000, 600)", false);
            NEW.due("outline(1001, 600)", true);
            NEW.due("outline(999, 600)", true);
            NEW.due("outline(1000, 601)", true);
            NEW.due("outline(1000, 599)", true);
            NEW.due("outline(600, 1000)", true);
            NEW.due("outline(1, 1)", true);
            NEW.due("outline(2000, 2000)", true);
            NEW.then("outline(1, 1)").due("outline(1, 1)", false);
            NEW.then("outline(2000, 2000)").due("outline(2000, 2000)", false);
            NEW.then("outline(2000, 1)").due("outline(1, 2000)", true);
            NEW.then("outline(1, 1)").due("outline(1000, 600)", true);
            NEW.then("outline(1, 1)").fraction("peak(part)", "1/2");
            NEW.then("outline(2000, 1999)").fraction("peak(part)", "1999/2");
            Calls kept = NEW.then("slope(0, 3, 7)", "gable(1)", "outline(1, 2000)");
            kept.due("slope(0, 3, 7)", false);
            kept.due("gable(1)", false);
        });
        promise.test("IllegalArgumentException.", () -> {
            long[] beyond = Beyond.range(1, 2000);
            SMALL.dueForEach("outline(?, 1)", beyond, Calls.ARGUMENT);
            SMALL.dueForEach("outline(?, 2000)", beyond, Calls.ARGUMENT);
            SMALL.dueForEach("outline(1, ?)", beyond, Calls.ARGUMENT);
            SMALL.dueForEach("outline(2000, ?)", beyond, Calls.ARGUMENT);
            SMALL.dueForEach("outline(?, ?)", beyond, Calls.ARGUMENT);
        });
    }

    private static void slope(Sentences promise) {
        promise.test("A side's SLOPE (it is no GABLE then):", () -> {
            for (int side = 0; side < 4; side++) {
                Calls sloped = NEW.then("gable(" + side + ")", "slope(" + side + ", 1, 20)");
                sloped.fraction("tangent(" + side + ", 0, 0, part)", "1/20");
                sloped.due("gable(" + side + ")", true);
                NEW.then("slope(" + side + ", 20, 1)")
                        .fraction("tangent(" + side + ", 0, 0, part)", "20/1");
                for (int other = 0; other < 4; other++) {
                    if (other != side) {
                        sloped.fraction("tangent(" + other + ", 0, 0, part)", "1/1");
                    }
                }
            }
        });
        promise.test("whether something is another one.", () -> {
            for (int side = 0; side < 4; side++) {
                String slope = "slope(" + side + ", ";
                NEW.due(slope + "1, 1)", false);
                NEW.due(slope + "20, 20)", false);
                NEW.due(slope + "20, 19)", true);
                NEW.due(slope + "19, 20)", true);
                NEW.due(slope + "1, 20)", true);
                NEW.due(slope + "20, 1)", true);
                NEW.then(slope + "1, 2)").due(slope + "10, 20)", false);
                NEW.then(slope + "10, 20)").due(slope + "1, 2)", false);
                NEW.then(slope + "1, 20)").due(slope + "20, 1)", true);
                NEW.then("gable(" + side + ")").due(slope + "1, 1)", true);
                NEW.then("gable(" + side + ")", slope + "1, 1)").due(slope + "1, 1)", false);
                NEW.then("slope(" + (side + 1) % 4 + ", 2, 3)").due(slope + "2, 3)", true);
            }
        });
        promise.test("ArrayIndexOutOfBoundsException;", () -> {
            SMALL.dueForEach("slope(?, 1, 20)", Beyond.index(4), Calls.INDEX);
            SMALL.dueForEach("slope(?, 0, 21)", Beyond.index(4), Calls.INDEX);
        });
        promise.test("IllegalArgumentException: a number is not 1 .. 20.", () -> {
            long[] beyond = Beyond.range(1, 20);
            SMALL.dueForEach("slope(0, ?, 1)", beyond, Calls.ARGUMENT);
            SMALL.dueForEach("slope(3, ?, 20)", beyond, Calls.ARGUMENT);
            SMALL.dueForEach("slope(0, 1, ?)", beyond, Calls.ARGUMENT);
            SMALL.dueForEach("slope(3, 20, ?)", beyond, Calls.ARGUMENT);
            SMALL.dueForEach("slope(1, ?, ?)", beyond, Calls.ARGUMENT);
            SMALL.then("gable(2)").dueForEach("slope(2, ?, 1)", beyond, Calls.ARGUMENT);
            SMALL.then("gable(2)").dueForEach("slope(2, 1, ?)", beyond, Calls.ARGUMENT);
            SMALL.then("gable(2)", "slope(0, 2, 3)").due("gable(2)", false);
        });
    }

    private static void gable(Sentences promise) {
        promise.test("A side is a GABLE: whether it was not.", () -> {
            for (int side = 0; side < 4; side++) {
                String call = "gable(" + side + ")";
                NEW.due(call, true);
                NEW.then(call).due(call, false);
                NEW.then(call, "slope(" + side + ", 1, 1)").due(call, true);
                NEW.then(call).due("rafter(" + side + ", 1)", Calls.STATE);
                NEW.then(call).due("rafter(" + (side + 1) % 4 + ", 10000)", 1);
                NEW.then(call).due("gable(" + (side + 1) % 4 + ")", true);
                NEW.then(call, "gable(" + (side + 1) % 4 + ")")
                        .due("gable(" + (side + 2) % 4 + ")", true);
            }
        });
        promise.test("ArrayIndexOutOfBoundsException;", () -> {
            NEW.dueForEach("gable(?)", Beyond.index(4), Calls.INDEX);
            NEW.thenOnly(0).dueForEach("gable(?)", Beyond.index(4), Calls.INDEX);
        });
        promise.test("IllegalStateException: all others are.", () -> {
            for (int kept = 0; kept < 4; kept++) {
                Calls alone = NEW.thenOnly(kept);
                alone.due("gable(" + kept + ")", Calls.STATE);
                for (int side = 0; side < 4; side++) {
                    if (side != kept) {
                        alone.due("gable(" + side + ")", false);
                    }
                }
            }
        });
    }

    private static void place(Sentences promise) {
        promise.test("THE ROOF's height at a place: numerator (part = 0), denominator (1).", () -> {
            Calls roof = Calls.after("outline(2000, 2000)", "slope(0, 1, 20)", "slope(2, 3, 20)");
            roof.due("place(1000, 1, 0)", 1);
            roof.due("place(1000, 1, 1)", 20);
            roof.due("place(1000, 1999, 0)", 3);
            roof.due("place(1000, 1999, 1)", 20);
            roof.due("place(0, 0, 0)", 0);
            roof.due("place(0, 0, 1)", 1);
            roof.due("place(2000, 2000, 0)", 0);
            roof.due("place(2000, 2000, 1)", 1);
            roof.due("place(1, 1000, 0)", 1);
            roof.due("place(1, 1000, 1)", 1);
            Calls steep = Calls.after("outline(2000, 2000)", "slope(0, 20, 1)").thenOnly(0);
            steep.due("place(2000, 2000, 0)", 40000);
            steep.due("place(2000, 2000, 1)", 1);
        });
        promise.test("ArrayIndexOutOfBoundsException;", () -> {
            SMALL.dueForEach("place(0, 0, ?)", Beyond.index(2), Calls.INDEX);
            SMALL.dueForEach("place(9, 4, ?)", Beyond.index(2), Calls.INDEX);
            SMALL.dueForEach("place(10, 5, ?)", Beyond.index(2), Calls.INDEX);
        });
        promise.test("IllegalArgumentException: the place is not in the OUTLINE.",
                () -> outsideRefused("place(?, ", ", 0)"));
    }

    private static void face(Sentences promise) {
        promise.test("The FACE at a place.", () -> {
            SMALL.due("face(0, 0)", 0);
            SMALL.due("face(9, 0)", 0);
            SMALL.due("face(9, 4)", 1);
            SMALL.due("face(0, 4)", 2);
            SMALL.due("face(4, 0)", 0);
            SMALL.due("face(9, 2)", 1);
            SMALL.due("face(4, 4)", 2);
            SMALL.due("face(0, 2)", 3);
            SMALL.due("face(4, 2)", 0);
            SMALL.due("face(4, 3)", 2);
            for (int side = 0; side < 4; side++) {
                SMALL.thenOnly(side).due("face(0, 0)", side);
                SMALL.thenOnly(side).due("face(9, 4)", side);
            }
        });
        promise.test("IllegalArgumentException: it is not in the OUTLINE.",
                () -> outsideRefused("face(?, ", ")"));
    }

    /** The call is put together as begin + y + rest; a ? stands for x. */
    private static void outsideRefused(String begin, String rest) {
        for (long y : new long[] {0, 4, -1, 5, Long.MIN_VALUE, Long.MAX_VALUE}) {
            SMALL.dueForEach(begin + y + rest, Beyond.range(0, 9), Calls.ARGUMENT);
        }
        for (long x : new long[] {0, 9}) {
            String call = begin.replace("?", String.valueOf(x)) + "?" + rest;
            SMALL.dueForEach(call, Beyond.range(0, 4), Calls.ARGUMENT);
        }
        // The outline's own numbers tell, not those that it had.
        String corner = begin.replace("?", "9") + "4" + rest;
        SMALL.then("outline(8, 2000)").due(corner, Calls.ARGUMENT);
        SMALL.then("outline(2000, 3)").due(corner, Calls.ARGUMENT);
        Checks.compare("inside", String.valueOf(SMALL.outcome(corner).matches("[0-9]+")), "true");
    }
}
