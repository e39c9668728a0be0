import java.math.BigInteger;

/** A fraction in lowest terms, of numbers as large as they come. */
record Ratio(BigInteger upper, BigInteger lower) {
    static final Ratio ZERO = of(0, 1);
    static final Ratio ONE = of(1, 1);
    private static final BigInteger P = BigInteger.valueOf(998244353L);
    private static final BigInteger SMALL = BigInteger.valueOf(20000);

    static Ratio of(long upper, long lower) {
        return reduced(BigInteger.valueOf(upper), BigInteger.valueOf(lower));
    }

    private static Ratio reduced(BigInteger upper, BigInteger lower) {
        BigInteger shared = upper.gcd(lower);
        shared = lower.signum() < 0 ? shared.negate() : shared;
        return new Ratio(upper.divide(shared), lower.divide(shared));
    }

    Ratio plus(Ratio other) {
        return reduced(upper.multiply(other.lower).add(other.upper.multiply(lower)), lower.multiply(other.lower));
    }

    Ratio less(Ratio other) {
        return plus(new Ratio(other.upper.negate(), other.lower));
    }

    Ratio times(Ratio other) {
        return reduced(upper.multiply(other.upper), lower.multiply(other.lower));
    }

    Ratio by(Ratio other) {
        return reduced(upper.multiply(other.lower), lower.multiply(other.upper));
    }

    int sign() {
        return upper.signum();
    }

    /** The lower number is 0 modulo P, so that it is no number there. */
    boolean isNone() {
        return lower.mod(P).signum() == 0;
    }

    int moduloP() {
        return upper.multiply(lower.modInverse(P)).mod(P).intValueExact();
    }

    boolean isSmall() {
        return upper.signum() >= 0 && upper.compareTo(SMALL) <= 0 && lower.compareTo(SMALL) <= 0;
    }
}
