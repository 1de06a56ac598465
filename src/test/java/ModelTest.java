import java.util.ArrayList;
import java.util.List;
import java.util.Random;

/**
 * Promises 5 to 17 on many roofs: each answer is held against the document's definition, worked
 * out another way than in the program (corners of all lines, clipped polygons, big integers).
 */
public final class ModelTest {
    private static final int ROOFS = 1500;

    private final RafterPlaces roof = new RafterPlaces();
    private final long[] extent = new long[2];
    /** null for a gable. */
    private final Ratio[] slopes = new Ratio[4];
    private final String name;

    public static void main(String[] args) {
        // A fixed seed: the same roofs in every run.
        Random random = new Random(20261115);
        for (int i = 0; i < ROOFS; i++) {
            new ModelTest(random, i).check(random);
        }
        Checks.finish();
    }

    private ModelTest(Random random, int number) {
        long most = number % 3 == 0 ? 12 : 2000;
        int terms = number % 5 == 0 ? 3 : 20;
        extent[0] = number % 7 == 0 ? most : 1 + random.nextInt((int) most);
        extent[1] = number % 11 == 0 ? extent[0] : 1 + random.nextInt((int) most);
        roof.outline(extent[0], extent[1]);
        int gables = number % 2 == 0 ? 0 : random.nextInt(15);
        StringBuilder text = new StringBuilder();
        for (int side = 0; side < 4; side++) {
            long above = number % 13 == 0 ? 20 - random.nextInt(2) : 1 + random.nextInt(terms);
            long below = number % 17 == 0 ? 20 - random.nextInt(2) : 1 + random.nextInt(terms);
            roof.slope(side, above, below);
            slopes[side] = Ratio.of(above, below);
            if ((gables >> side & 1) == 1) {
                roof.gable(side);
                slopes[side] = null;
            }
            text.append(' ').append(slopes[side]);
        }
        name = "roof " + number + " of " + extent[0] + " by " + extent[1] + text + ": ";
    }

    private void check(Random random) {
        checkPlaces(random);
        for (int side = 0; side < 4; side++) {
            if (slopes[side] == null) {
                checkGable(side);
            } else {
                checkSide(side, random);
            }
        }
        checkRidge();
    }

    private void hold(String what, boolean holds) {
        Checks.compare(name + what, holds ? "holds" : "does not hold", "holds");
    }

    // Heights

    private Ratio distance(int side, Ratio x, Ratio y) {
        Ratio along = side % 2 == 0 ? y : x;
        boolean fromZero = side == 0 || side == 3;
        return fromZero ? along : Ratio.of(extent[side % 2 == 0 ? 1 : 0]).minus(along);
    }

    private Ratio plane(int side, Ratio x, Ratio y) {
        return distance(side, x, y).times(slopes[side]);
    }

    private Ratio height(Ratio x, Ratio y) {
        Ratio least = null;
        for (int side = 0; side < 4; side++) {
            if (slopes[side] != null) {
                Ratio here = plane(side, x, y);
                least = least == null ? here : least.min(here);
            }
        }
        return least;
    }

    private void checkPlaces(Random random) {
        for (int i = 0; i < 8; i++) {
            long x = i < 4 ? i % 2 * extent[0] : random.nextInt((int) extent[0] + 1);
            long y = i < 4 ? i / 2 * extent[1] : random.nextInt((int) extent[1] + 1);
            Ratio high = height(Ratio.of(x), Ratio.of(y));
            Checks.compare(name + "place " + x + ", " + y, Checks.place(roof, x, y), high + "");
            int first = 0;
            while (slopes[first] == null || !plane(first, Ratio.of(x), Ratio.of(y)).same(high)) {
                first++;
            }
            Checks.due(name + "face " + x + ", " + y, () -> roof.face(x, y), first);
        }
    }

    // Rafters

    private long sideLength(int side) {
        return extent[side % 2];
    }

    private void checkGable(int side) {
        Class<IllegalStateException> state = IllegalStateException.class;
        Checks.raises(name + "rafter", () -> roof.rafter(side, 1), state);
        Checks.raises(name + "end", () -> roof.end(side, 0, 0), state);
        Checks.raises(name + "against", () -> roof.against(side, 0), state);
        Checks.raises(name + "length", () -> roof.length(side, 0, 0), state);
        Checks.raises(name + "tangent", () -> roof.tangent(side, 0, 2, 0), state);
        Checks.raises(name + "mouth", () -> roof.mouth(side, 0, 0), state);
        Checks.raises(name + "area", () -> roof.area(side, 0), state);
        Checks.raises(name + "batten", () -> roof.batten(side, 1), state);
        Checks.raises(name + "hip", () -> roof.hip(side, 0, 0), state);
        Checks.raises(name + "hip before", () -> roof.hip((side + 3) % 4, 1, 1), state);
    }

    private void checkSide(int side, Random random) {
        long[] places = {0, sideLength(side), sideLength(side) / 2,
            random.nextInt((int) sideLength(side) + 1), random.nextInt((int) sideLength(side) + 1)};
        for (long t : places) {
            checkRafter(side, t);
        }
        long spacing = 1 + random.nextInt(random.nextBoolean() ? 20 : 10000);
        int count = 0;
        for (long at = 0; at <= sideLength(side); at += spacing) {
            count++;
        }
        Checks.due(name + "rafter " + side + " by " + spacing, () -> roof.rafter(side, spacing),
                count);
        long depth = random.nextInt(1001);
        Checks.compare(name + "mouth " + depth, Checks.mouth(roof, side, depth),
                Ratio.of(depth).by(slopes[side]) + "");
        Checks.compare(name + "foot", Checks.tangent(roof, side, 0, 0), slopes[side] + "");
        Checks.compare(name + "seat", Checks.tangent(roof, side, 0, 1),
                Ratio.ONE.by(slopes[side]) + "");
        Checks.compare(name + "area of " + side, Checks.area(roof, side), twiceArea(side) + "");
        checkBattens(side, spacing);
    }

    private Ratio[] placeOnRafter(int side, long t, Ratio in) {
        Ratio along = Ratio.of(t);
        boolean fromZero = side == 0 || side == 3;
        Ratio across = fromZero ? in : Ratio.of(extent[side % 2 == 0 ? 1 : 0]).minus(in);
        return side % 2 == 0 ? new Ratio[] {along, across} : new Ratio[] {across, along};
    }

    private void checkRafter(int side, long t) {
        String call = "rafter of " + side + " at " + t;
        Ratio in = Ratio.of(roof.end(side, t, 0), roof.end(side, t, 1));
        Checks.compare(name + call + " without common divisor", Checks.end(roof, side, t), in + "");
        Ratio[] at = placeOnRafter(side, t, in);
        Ratio way = Ratio.of(sideLength(side + 1));
        int opposite = (side + 2) % 4;
        hold(call + " is inside", in.sign() >= 0 && in.compareTo(way) <= 0);
        hold(call + " is not above", plane(side, at[0], at[1]).same(height(at[0], at[1])));
        int ending = -1;
        for (int other = 3; other >= 0; other--) {
            boolean byPlane = slopes[other] != null && other != side
                    && plane(other, at[0], at[1]).same(plane(side, at[0], at[1]));
            if (byPlane || other == opposite && in.same(way)) {
                ending = other;
            }
        }
        // The own plane rises and no other one does: so beyond such a place it is above.
        hold(call + " goes no further", ending >= 0);
        Checks.due(name + "against, " + call, () -> roof.against(side, t), ending);
        Ratio cut = ending < 0 || ending == opposite ? Ratio.ZERO : slopes[side].by(slopes[ending]);
        Checks.compare(name + "cut 2, " + call, Checks.tangent(roof, side, t, 2), cut + "");
        checkLength(side, t, in);
    }

    private void checkLength(int side, long t, Ratio in) {
        Ratio square = in.times(in).times(Ratio.ONE.plus(slopes[side].times(slopes[side])));
        Ratio cutOff = Ratio.of(roof.length(side, t, 0));
        Ratio above = Ratio.of(roof.length(side, t, 1));
        Ratio next = cutOff.plus(Ratio.ONE);
        hold("length is cut off", cutOff.times(cutOff).compareTo(square) <= 0
                && next.times(next).compareTo(square) > 0);
        boolean whole = cutOff.times(cutOff).same(square);
        hold("length is not below it", above.same(whole ? cutOff : next));
    }

    // Areas: the outline, cut along each line where the own plane begins to be above another one

    private Ratio twiceArea(int side) {
        List<Ratio[]> polygon = corners();
        for (int other = 0; other < 4; other++) {
            if (other != side && slopes[other] != null) {
                polygon = cut(polygon, side, other);
            }
        }
        Ratio twice = Ratio.ZERO;
        for (int i = 0; i < polygon.size(); i++) {
            Ratio[] a = polygon.get(i);
            Ratio[] b = polygon.get((i + 1) % polygon.size());
            twice = twice.plus(a[0].times(b[1])).minus(a[1].times(b[0]));
        }
        return twice;
    }

    private List<Ratio[]> corners() {
        Ratio x = Ratio.of(extent[0]);
        Ratio y = Ratio.of(extent[1]);
        return List.of(new Ratio[] {Ratio.ZERO, Ratio.ZERO}, new Ratio[] {x, Ratio.ZERO},
                new Ratio[] {x, y}, new Ratio[] {Ratio.ZERO, y});
    }

    private List<Ratio[]> cut(List<Ratio[]> polygon, int side, int other) {
        List<Ratio[]> kept = new ArrayList<>();
        for (int i = 0; i < polygon.size(); i++) {
            Ratio[] a = polygon.get(i);
            Ratio[] b = polygon.get((i + 1) % polygon.size());
            Ratio aboveA = plane(side, a[0], a[1]).minus(plane(other, a[0], a[1]));
            Ratio aboveB = plane(side, b[0], b[1]).minus(plane(other, b[0], b[1]));
            if (aboveA.sign() <= 0) {
                kept.add(a);
            }
            if (aboveA.sign() * aboveB.sign() < 0) {
                Ratio share = aboveA.by(aboveA.minus(aboveB));
                kept.add(new Ratio[] {a[0].plus(b[0].minus(a[0]).times(share)),
                    a[1].plus(b[1].minus(a[1]).times(share))});
            }
        }
        return kept;
    }

    // Peak and ridge: the roof is highest at corners of the lines where it may bend

    /** The lines a * x + b * y = c of the outline's sides, and where two planes are as high. */
    private List<Ratio[]> lines() {
        List<Ratio[]> lines = new ArrayList<>();
        lines.add(new Ratio[] {Ratio.ONE, Ratio.ZERO, Ratio.ZERO});
        lines.add(new Ratio[] {Ratio.ONE, Ratio.ZERO, Ratio.of(extent[0])});
        lines.add(new Ratio[] {Ratio.ZERO, Ratio.ONE, Ratio.ZERO});
        lines.add(new Ratio[] {Ratio.ZERO, Ratio.ONE, Ratio.of(extent[1])});
        for (int side = 0; side < 4; side++) {
            for (int other = side + 1; other < 4; other++) {
                if (slopes[side] != null && slopes[other] != null) {
                    lines.add(asHigh(side, other));
                }
            }
        }
        return lines;
    }

    private Ratio[] asHigh(int side, int other) {
        Ratio origin = difference(side, other, Ratio.ZERO, Ratio.ZERO);
        return new Ratio[] {difference(side, other, Ratio.ONE, Ratio.ZERO).minus(origin),
            difference(side, other, Ratio.ZERO, Ratio.ONE).minus(origin),
            origin.times(Ratio.of(-1))};
    }

    private Ratio difference(int side, int other, Ratio x, Ratio y) {
        return plane(side, x, y).minus(plane(other, x, y));
    }

    private List<Ratio[]> crossings() {
        List<Ratio[]> found = new ArrayList<>();
        List<Ratio[]> lines = lines();
        for (Ratio[] p : lines) {
            for (Ratio[] q : lines) {
                Ratio det = p[0].times(q[1]).minus(p[1].times(q[0]));
                if (det.sign() != 0) {
                    Ratio x = p[2].times(q[1]).minus(p[1].times(q[2])).by(det);
                    Ratio y = p[0].times(q[2]).minus(p[2].times(q[0])).by(det);
                    if (x.sign() >= 0 && x.compareTo(Ratio.of(extent[0])) <= 0
                            && y.sign() >= 0 && y.compareTo(Ratio.of(extent[1])) <= 0) {
                        found.add(new Ratio[] {x, y});
                    }
                }
            }
        }
        return found;
    }

    private Ratio greatestHeight(List<Ratio[]> crossings) {
        Ratio greatest = Ratio.ZERO;
        for (Ratio[] at : crossings) {
            greatest = greatest.max(height(at[0], at[1]));
        }
        return greatest;
    }

    private void checkRidge() {
        List<Ratio[]> crossings = crossings();
        Ratio peak = greatestHeight(crossings);
        Checks.compare(name + "peak", Checks.peak(roof), peak + "");
        Ratio[] bounds = {Ratio.of(extent[0]), Ratio.ZERO, Ratio.of(extent[1]), Ratio.ZERO};
        for (Ratio[] at : crossings) {
            if (height(at[0], at[1]).same(peak)) {
                bounds[0] = bounds[0].min(at[0]);
                bounds[1] = bounds[1].max(at[0]);
                bounds[2] = bounds[2].min(at[1]);
                bounds[3] = bounds[3].max(at[1]);
            }
        }
        Checks.compare(name + "ridge", Checks.ridge(roof),
                bounds[0] + " " + bounds[1] + " " + bounds[2] + " " + bounds[3]);
        for (int k = 0; k < 4; k++) {
            if (slopes[k] != null && slopes[(k + 1) % 4] != null) {
                checkHip(k, peak);
            }
        }
    }

    private void checkHip(int k, Ratio peak) {
        int next = (k + 1) % 4;
        Ratio in = Ratio.of(roof.hip(k, 0, 0), roof.hip(k, 0, 1));
        Ratio inNext = Ratio.of(roof.hip(k, 1, 0), roof.hip(k, 1, 1));
        Checks.compare(name + "hip " + k, Checks.hip(roof, k), in + " " + inNext);
        Ratio acrossX = k % 2 == 0 ? inNext : in;
        Ratio acrossY = k % 2 == 0 ? in : inNext;
        boolean fromGreatX = k == 0 || k == 1;
        boolean fromGreatY = k == 1 || k == 2;
        Ratio x = fromGreatX ? Ratio.of(extent[0]).minus(acrossX) : acrossX;
        Ratio y = fromGreatY ? Ratio.of(extent[1]).minus(acrossY) : acrossY;
        hold("hip " + k + " is as high on both", plane(k, x, y).same(plane(next, x, y)));
        hold("hip " + k + " ends on the ridge", height(x, y).same(peak)
                && plane(k, x, y).same(peak));
    }

    private void checkBattens(int side, long spacing) {
        Ratio peak = greatestHeight(crossings());
        Ratio slopeSquare = slopes[side].times(slopes[side]);
        Ratio riseSquare = slopeSquare.by(Ratio.ONE.plus(slopeSquare));
        int rows = roof.batten(side, spacing);
        Ratio last = Ratio.of(rows * spacing);
        Ratio next = Ratio.of((rows + 1) * spacing);
        hold("row " + rows + " by " + spacing + " is not higher than the peak",
                last.times(last).times(riseSquare).compareTo(peak.times(peak)) <= 0);
        hold("the row behind row " + rows + " by " + spacing + " is higher than the peak",
                next.times(next).times(riseSquare).compareTo(peak.times(peak)) > 0);
    }
}
