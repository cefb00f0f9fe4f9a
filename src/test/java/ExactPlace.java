import java.math.BigInteger;

/** Places decided without logarithms wherever a double could be in doubt: by whole powers alone. */
final class ExactPlace {
    private ExactPlace() {
    }

    /** The whole number nearest (of two alike the greater) to steps times log10(v / (10 fold)) by q. */
    static int of(int v, int steps, int q, int fold) {
        double near = steps * (Math.log10(v) - Math.log10(10.0 * fold)) / q;
        int guess = (int) Math.floor(near + 0.5);
        double edge = Math.rint(near + 0.5);
        if (Math.abs(near + 0.5 - edge) > 1e-7) {
            return guess;
        }
        int upper = (int) edge;
        return reaches(v, steps, q, fold, upper) ? upper : upper - 1;
    }

    /** Whether steps log10(v / base) / q is at least p less a half: v^(2 steps) >= base^(2 steps) 10^((2p-1)q). */
    static boolean reaches(int v, int steps, int q, int fold, int p) {
        int common = BigInteger.valueOf(v).gcd(BigInteger.valueOf(10L * fold)).intValue();
        BigInteger left = BigInteger.valueOf(v / common).pow(2 * steps);
        BigInteger right = BigInteger.valueOf(10L * fold / common).pow(2 * steps);
        int tens = (2 * p - 1) * q;
        BigInteger power = BigInteger.TEN.pow(Math.abs(tens));
        if (tens >= 0) {
            right = right.multiply(power);
        } else {
            left = left.multiply(power);
        }
        return left.compareTo(right) >= 0;
    }
}
