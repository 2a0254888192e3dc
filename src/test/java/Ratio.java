import java.math.BigInteger;

/** A fraction in lowest terms, its lower part above 0. */
final class Ratio {
    static final Ratio ZERO = of(0, 1);
    static final Ratio ONE = of(1, 1);

    private final BigInteger above;
    private final BigInteger below;

    private Ratio(BigInteger above, BigInteger below) {
        BigInteger divisor = above.gcd(below);
        BigInteger signed = below.signum() < 0 ? divisor.negate() : divisor;
        this.above = above.divide(signed);
        this.below = below.divide(signed);
    }

    static Ratio of(long above, long below) {
        return new Ratio(BigInteger.valueOf(above), BigInteger.valueOf(below));
    }

    Ratio plus(Ratio other) {
        return new Ratio(above.multiply(other.below).add(other.above.multiply(below)), below.multiply(other.below));
    }

    Ratio minus(Ratio other) {
        return plus(other.times(of(-1, 1)));
    }

    Ratio times(Ratio other) {
        return new Ratio(above.multiply(other.above), below.multiply(other.below));
    }

    Ratio by(Ratio other) {
        return new Ratio(above.multiply(other.below), below.multiply(other.above));
    }

    boolean isZero() {
        return above.signum() == 0;
    }

    int compare(Ratio other) {
        return minus(other).above.signum();
    }

    long above() {
        return above.longValueExact();
    }

    long below() {
        return below.longValueExact();
    }

    long part(int what) {
        return what == 0 ? above() : below();
    }
}
