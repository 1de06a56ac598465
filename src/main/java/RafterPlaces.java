/**
 * Roofs over a rectangle with a slope of its own on each side, or a gable: heights as exact
 * fractions, faces, hips, ridge, rafters, tangents of cuts, areas, rows of battens.
 */
public final class RafterPlaces {
    public static final int NONE = -1;

    private static final int SIDES = 4;
    private static final int PARTS = 2;
    private static final int ROUNDINGS = 2;
    private static final int CUTS = 3;
    private static final int HIP_DISTANCES = 2;
    private static final int RIDGE_BOUNDS = 4;

    private static final long GREATEST_EXTENT = 2000;
    private static final long GREATEST_TERM = 20;
    private static final long GREATEST_SPACING = 10000;
    private static final long GREATEST_DEPTH = 1000;

    private static final int CUT_AT_FOOT = 0;
    private static final int CUT_OF_SEAT = 1;

    private long extentX;
    private long extentY;

    /**
     * How far in each side's plane goes while it rises by 1: 1 by its slope. A gable has 0 here,
     * as if it stood upright: so the formulas for peak, ridge, ends and areas hold for it too.
     */
    private final Fraction[] runs;

    public RafterPlaces() {
        extentX = 1000;
        extentY = 600;
        runs = new Fraction[SIDES];
        for (int side = 0; side < SIDES; side++) {
            runs[side] = new Fraction(1, 1);
        }
    }

    public boolean outline(long length, long wide) throws IllegalArgumentException {
        checkNumber(length, 1, GREATEST_EXTENT);
        checkNumber(wide, 1, GREATEST_EXTENT);
        boolean another = length != extentX || wide != extentY;
        extentX = length;
        extentY = wide;
        return another;
    }

    public boolean slope(int side, long above, long below)
            throws ArrayIndexOutOfBoundsException, IllegalArgumentException {
        checkIndex(side, SIDES);
        checkNumber(above, 1, GREATEST_TERM);
        checkNumber(below, 1, GREATEST_TERM);
        return changeRun(side, new Fraction(below, above));
    }

    public boolean gable(int side) throws ArrayIndexOutOfBoundsException, IllegalStateException {
        checkIndex(side, SIDES);
        checkOthersAreNotAllGables(side);
        return changeRun(side, new Fraction(0, 1));
    }

    public long place(long x, long y, int part)
            throws ArrayIndexOutOfBoundsException, IllegalArgumentException {
        checkIndex(part, PARTS);
        checkInOutline(x, y);
        return planeHeight(lowestSide(x, y), x, y).part(part);
    }

    public int face(long x, long y) throws IllegalArgumentException {
        checkInOutline(x, y);
        return lowestSide(x, y);
    }

    public int rafter(int side, long spacing)
            throws ArrayIndexOutOfBoundsException, IllegalStateException, IllegalArgumentException {
        checkIndex(side, SIDES);
        checkNoGable(side);
        checkNumber(spacing, 1, GREATEST_SPACING);
        return (int) (sideLength(side) / spacing) + 1;
    }

    public long end(int side, long t, int part)
            throws ArrayIndexOutOfBoundsException, IllegalStateException, IllegalArgumentException {
        checkIndex(side, SIDES);
        checkIndex(part, PARTS);
        checkRafter(side, t);
        return rafterEnd(side, t).part(part);
    }

    public int against(int side, long t)
            throws ArrayIndexOutOfBoundsException, IllegalStateException, IllegalArgumentException {
        checkIndex(side, SIDES);
        checkRafter(side, t);
        return endingSide(side, t);
    }

    public long length(int side, long t, int end)
            throws ArrayIndexOutOfBoundsException, IllegalStateException, IllegalArgumentException {
        checkIndex(side, SIDES);
        checkIndex(end, ROUNDINGS);
        checkRafter(side, t);
        Fraction square = squareAlongSlope(side, rafterEnd(side, t));
        long cutOff = root(square.cutOff());
        boolean whole = cutOff * cutOff * square.below == square.above;
        return end == 0 || whole ? cutOff : cutOff + 1;
    }

    public long tangent(int side, long t, int cut, int part)
            throws ArrayIndexOutOfBoundsException, IllegalStateException, IllegalArgumentException {
        checkIndex(side, SIDES);
        checkIndex(cut, CUTS);
        checkIndex(part, PARTS);
        checkRafter(side, t);
        return cutTangent(side, t, cut).part(part);
    }

    public long mouth(int side, long depth, int part)
            throws ArrayIndexOutOfBoundsException, IllegalStateException, IllegalArgumentException {
        checkIndex(side, SIDES);
        checkIndex(part, PARTS);
        checkNoGable(side);
        checkNumber(depth, 0, GREATEST_DEPTH);
        return runs[side].times(depth).part(part);
    }

    public long hip(int k, int what, int part)
            throws ArrayIndexOutOfBoundsException, IllegalStateException {
        checkIndex(k, SIDES);
        checkIndex(what, HIP_DISTANCES);
        checkIndex(part, PARTS);
        int behind = sideBehind(k);
        checkNoGable(k);
        checkNoGable(behind);
        return inAtPeak(what == 0 ? k : behind).part(part);
    }

    public long peak(int part) throws ArrayIndexOutOfBoundsException {
        checkIndex(part, PARTS);
        return peakHeight().part(part);
    }

    public long ridge(int what, int part) throws ArrayIndexOutOfBoundsException {
        checkIndex(what, RIDGE_BOUNDS);
        checkIndex(part, PARTS);
        return ridgeBound(what).part(part);
    }

    public long area(int side, int part)
            throws ArrayIndexOutOfBoundsException, IllegalStateException {
        checkIndex(side, SIDES);
        checkIndex(part, PARTS);
        checkNoGable(side);
        return twiceArea(side).part(part);
    }

    public int batten(int side, long spacing)
            throws ArrayIndexOutOfBoundsException, IllegalStateException, IllegalArgumentException {
        checkIndex(side, SIDES);
        checkNoGable(side);
        checkNumber(spacing, 1, GREATEST_SPACING);
        // A row lies a whole number up the slope, so the cut off root tells as much as the root.
        long upToPeak = root(squareAlongSlope(side, inAtPeak(side)).cutOff());
        return (int) (upToPeak / spacing);
    }

    private static void checkIndex(int index, int count) {
        if (index < 0 || index >= count) {
            throw new ArrayIndexOutOfBoundsException("there is no such side, part, cut, end or hip");
        }
    }

    private static void checkNumber(long number, long least, long greatest) {
        if (number < least || number > greatest) {
            throw new IllegalArgumentException("the number is not as said");
        }
    }

    private void checkNoGable(int side) {
        if (isGable(side)) {
            throw new IllegalStateException("the side is a gable");
        }
    }

    private void checkOthersAreNotAllGables(int side) {
        for (int other = 0; other < SIDES; other++) {
            if (other != side && !isGable(other)) {
                return;
            }
        }
        throw new IllegalStateException("all other sides are gables");
    }

    private void checkInOutline(long x, long y) {
        checkNumber(x, 0, extentX);
        checkNumber(y, 0, extentY);
    }

    private void checkRafter(int side, long t) {
        checkNoGable(side);
        checkNumber(t, 0, sideLength(side));
    }

    private boolean isGable(int side) {
        return runs[side].above == 0;
    }

    private boolean changeRun(int side, Fraction run) {
        boolean another = !run.isSame(runs[side]);
        runs[side] = run;
        return another;
    }

    private static int sideBehind(int side) {
        return (side + 1) % SIDES;
    }

    private static int opposite(int side) {
        return (side + 2) % SIDES;
    }

    private static boolean goesAlongX(int side) {
        return side == 0 || side == 2;
    }

    private long sideLength(int side) {
        return goesAlongX(side) ? extentX : extentY;
    }

    private long wayToOpposite(int side) {
        return goesAlongX(side) ? extentY : extentX;
    }

    private long distanceFrom(int side, long x, long y) {
        switch (side) {
            case 0:
                return y;
            case 1:
                return extentX - x;
            case 2:
                return extentY - y;
            default:
                return x;
        }
    }

    private Fraction planeHeight(int side, long x, long y) {
        return new Fraction(runs[side].below * distanceFrom(side, x, y), runs[side].above);
    }

    private boolean isLower(int side, int other, long x, long y) {
        return planeHeight(side, x, y).isLess(planeHeight(other, x, y));
    }

    private int lowestSide(long x, long y) {
        int lowest = 0;
        for (int side = 1; side < SIDES; side++) {
            if (!isGable(side) && (isGable(lowest) || isLower(side, lowest, x, y))) {
                lowest = side;
            }
        }
        return lowest;
    }

    /** How far in the other side lets a rafter go. */
    private Fraction limitBy(int other, int side, long t) {
        Fraction run = runs[side];
        if (other == opposite(side)) {
            return run.dividedBy(run.plus(runs[other])).times(wayToOpposite(side));
        }
        boolean atLesserEnd = other == 0 || other == 3;
        long distance = atLesserEnd ? t : sideLength(side) - t;
        return run.dividedBy(runs[other]).times(distance);
    }

    private int endingSide(int side, long t) {
        int ending = opposite(side);
        Fraction nearest = limitBy(ending, side, t);
        for (int other = 0; other < SIDES; other++) {
            if (other == side || other == opposite(side) || isGable(other)) {
                continue;
            }
            Fraction limit = limitBy(other, side, t);
            if (limit.isLess(nearest) || limit.isSame(nearest) && other < ending) {
                ending = other;
                nearest = limit;
            }
        }
        return ending;
    }

    private Fraction rafterEnd(int side, long t) {
        return limitBy(endingSide(side, t), side, t);
    }

    /** The square of the way up the slope to the place that lies so far in, seen from above. */
    private Fraction squareAlongSlope(int side, Fraction in) {
        Fraction slope = runs[side].inverse();
        return slope.times(slope).plus(new Fraction(1, 1)).times(in).times(in);
    }

    private Fraction cutTangent(int side, long t, int cut) {
        Fraction run = runs[side];
        if (cut == CUT_AT_FOOT) {
            return run.inverse();
        }
        if (cut == CUT_OF_SEAT) {
            return run;
        }
        int ending = endingSide(side, t);
        if (ending == opposite(side)) {
            return new Fraction(0, 1);
        }
        return runs[ending].dividedBy(run);
    }

    /**
     * The places at a height or above it are a rectangle, and its sides move in by their runs as
     * the height grows: the peak is where the first pair of opposite sides meets.
     */
    private Fraction peakHeight() {
        Fraction runAlongX = runs[3].plus(runs[1]);
        Fraction runAlongY = runs[0].plus(runs[2]);
        if (runAlongX.above == 0) {
            return runAlongY.inverse().times(extentY);
        }
        Fraction peakAlongX = runAlongX.inverse().times(extentX);
        if (runAlongY.above == 0) {
            return peakAlongX;
        }
        Fraction peakAlongY = runAlongY.inverse().times(extentY);
        return peakAlongX.isLess(peakAlongY) ? peakAlongX : peakAlongY;
    }

    private Fraction inAtPeak(int side) {
        return peakHeight().times(runs[side]);
    }

    private Fraction ridgeBound(int what) {
        switch (what) {
            case 0:
                return inAtPeak(3);
            case 1:
                return inAtPeak(1).takenFrom(extentX);
            case 2:
                return inAtPeak(0);
            default:
                return inAtPeak(2).takenFrom(extentY);
        }
    }

    /** A face is a trapezium: as long as its side below and as the ridge's stretch above. */
    private Fraction twiceArea(int side) {
        Fraction peak = peakHeight();
        Fraction bothEnds = runs[sideBehind(side)].plus(runs[opposite(sideBehind(side))]);
        Fraction lengths = peak.times(bothEnds).takenFrom(2 * sideLength(side));
        return peak.times(runs[side]).times(lengths);
    }

    private static long root(long square) {
        long root = 0;
        for (int bit = 30; bit >= 0; bit--) {
            long tried = root + (1L << bit);
            if (tried * tried <= square) {
                root = tried;
            }
        }
        return root;
    }

    /** A fraction that is not below 0, without a common divisor. */
    private static final class Fraction {
        // Euclid's way takes at most 92 steps for two longs.
        private static final int MOST_STEPS = 100;

        final long above;
        final long below;

        Fraction(long above, long below) {
            long divisor = commonDivisor(above, below);
            long denominator = below / divisor;
            this.above = above / divisor;
            // cutOff() divides by it, so it is never 0, whatever comes in.
            this.below = denominator > 0 ? denominator : 1;
        }

        private static long commonDivisor(long first, long second) {
            long divisor = first;
            long rest = second;
            for (int step = 0; step < MOST_STEPS && rest != 0; step++) {
                long next = divisor % rest;
                divisor = rest;
                rest = next;
            }
            return divisor > 0 ? divisor : 1;
        }

        long part(int part) {
            return part == 0 ? above : below;
        }

        long cutOff() {
            return above / below;
        }

        boolean isLess(Fraction other) {
            return above * other.below < other.above * below;
        }

        boolean isSame(Fraction other) {
            return above == other.above && below == other.below;
        }

        Fraction plus(Fraction other) {
            return new Fraction(above * other.below + other.above * below, below * other.below);
        }

        Fraction takenFrom(long whole) {
            return new Fraction(whole * below - above, below);
        }

        Fraction times(Fraction other) {
            return new Fraction(above * other.above, below * other.below);
        }

        Fraction times(long whole) {
            return new Fraction(above * whole, below);
        }

        /** Asked only of fractions above 0. */
        Fraction inverse() {
            return new Fraction(below, above);
        }

        /** Asked only with another above 0. */
        Fraction dividedBy(Fraction other) {
            return new Fraction(above * other.below, below * other.above);
        }
    }
}
