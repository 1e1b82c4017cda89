import java.math.BigInteger;

/** An exact fraction, in least terms, for the slow reckonings that the tests compare with. */
record Ratio(BigInteger above, BigInteger below) {
    static final Ratio ZERO = of(0, 1);
    static final Ratio ONE = of(1, 1);

    static Ratio of(long above, long below) {
        return of(BigInteger.valueOf(above), BigInteger.valueOf(below));
    }

    private static Ratio of(BigInteger above, BigInteger below) {
        BigInteger common = above.gcd(below);
        return new Ratio(above.divide(common), below.divide(common));
    }

    Ratio plus(Ratio other) {
        return of(above.multiply(other.below).add(other.above.multiply(below)), below.multiply(other.below));
    }

    Ratio times(Ratio other) {
        return of(above.multiply(other.above), below.multiply(other.below));
    }

    Ratio less(Ratio other) {
        return plus(of(other.above.negate(), other.below));
    }

    Ratio over(Ratio other) {
        return of(above.multiply(other.below), below.multiply(other.above));
    }

    Ratio rest() {
        return ONE.less(this);
    }

    int compare(Ratio other) {
        return above.multiply(other.below).compareTo(other.above.multiply(below));
    }

    void due(String what, long gotAbove, long gotBelow) {
        Check.due(what + " above", gotAbove, above.longValueExact());
        Check.due(what + " below", gotBelow, below.longValueExact());
    }
}
