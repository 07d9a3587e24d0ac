import java.math.BigInteger;

/** A fraction in lowest terms, for the model that the tests compare with. */
final class Fraction implements Comparable<Fraction> {
    static final Fraction ZERO = of(0, 1);
    static final Fraction ONE = of(1, 1);

    private final BigInteger top;
    private final BigInteger bottom;

    private Fraction(BigInteger top, BigInteger bottom) {
        BigInteger divisor = top.gcd(bottom);
        if (bottom.signum() < 0) {
            divisor = divisor.negate();
        }
        this.top = top.divide(divisor);
        this.bottom = bottom.divide(divisor);
    }

    static Fraction of(long top, long bottom) {
        return new Fraction(BigInteger.valueOf(top), BigInteger.valueOf(bottom));
    }

    static Fraction of(long whole) {
        return of(whole, 1);
    }

    Fraction plus(Fraction o) {
        return new Fraction(top.multiply(o.bottom).add(o.top.multiply(bottom)),
                bottom.multiply(o.bottom));
    }

    Fraction minus(Fraction o) {
        return plus(o.times(of(-1)));
    }

    Fraction times(Fraction o) {
        return new Fraction(top.multiply(o.top), bottom.multiply(o.bottom));
    }

    Fraction over(Fraction o) {
        return new Fraction(top.multiply(o.bottom), bottom.multiply(o.top));
    }

    boolean isZero() {
        return top.signum() == 0;
    }

    int sign() {
        return top.signum();
    }

    Fraction min(Fraction o) {
        return compareTo(o) <= 0 ? this : o;
    }

    Fraction max(Fraction o) {
        return compareTo(o) >= 0 ? this : o;
    }

    @Override
    public int compareTo(Fraction o) {
        return top.multiply(o.bottom).compareTo(o.top.multiply(bottom));
    }

    @Override
    public String toString() {
        return bottom.equals(BigInteger.ONE) ? top.toString() : top + "/" + bottom;
    }
}
