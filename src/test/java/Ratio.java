import java.math.BigInteger;

/** Exact fractions for the tests, written apart from the program's own. */
final class Ratio implements Comparable<Ratio> {
    static final Ratio ZERO = of(0);
    static final Ratio ONE = of(1);

    final BigInteger above;
    final BigInteger below;

    private Ratio(BigInteger above, BigInteger below) {
        BigInteger divisor = above.gcd(below);
        if (below.signum() < 0) {
            divisor = divisor.negate();
        }
        this.above = above.divide(divisor);
        this.below = below.divide(divisor);
    }

    static Ratio of(long whole) {
        return of(whole, 1);
    }

    static Ratio of(long above, long below) {
        return new Ratio(BigInteger.valueOf(above), BigInteger.valueOf(below));
    }

    Ratio plus(Ratio other) {
        return new Ratio(above.multiply(other.below).add(other.above.multiply(below)),
                below.multiply(other.below));
    }

    Ratio minus(Ratio other) {
        return plus(other.times(of(-1)));
    }

    Ratio times(Ratio other) {
        return new Ratio(above.multiply(other.above), below.multiply(other.below));
    }

    Ratio by(Ratio other) {
        return new Ratio(above.multiply(other.below), below.multiply(other.above));
    }

    int sign() {
        return above.signum();
    }

    boolean same(Ratio other) {
        return compareTo(other) == 0;
    }

    Ratio min(Ratio other) {
        return compareTo(other) <= 0 ? this : other;
    }

    Ratio max(Ratio other) {
        return compareTo(other) >= 0 ? this : other;
    }

    @Override
    public int compareTo(Ratio other) {
        return above.multiply(other.below).compareTo(other.above.multiply(below));
    }

    @Override
    public String toString() {
        return above + "/" + below;
    }
}
