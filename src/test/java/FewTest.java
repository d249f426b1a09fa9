import java.math.BigInteger;

/** Promise 32: few. */
public final class FewTest {
    private static final long ALL = 1_000_000_000_000L;

    public static void main(String[] args) {
        StatueRelief x = new StatueRelief();
        Check.due("nobody", x.few(1, 0), ALL);
        Check.due("one, none sneezes", x.few(1, 1), 900_000_000_000L);
        Check.due("one, fewer than two", x.few(2, 1), ALL);
        Check.due("three, none", x.few(1, 3), 729_000_000_000L);
        Check.due("three, fewer than two", x.few(2, 3), 972_000_000_000L);
        Check.due("three, fewer than 20", x.few(20, 3), ALL);
        Check.due("k 0", x.few(0, 1), -1);
        Check.due("k 21", x.few(21, 1), -1);
        Check.due("n -1", x.few(1, -1), -1);
        Check.due("n 100", x.few(1, 100), -1);
        Check.due("k -1", x.few(-1, 1), -1);
        Check.due("it is no refusal", x.status() + x.count(8), 0);
        for (int sneezes = 0; sneezes <= 10; sneezes++) {
            x.terms(1, sneezes);
            for (int k = 1; k <= 20; k += sneezes == 3 ? 1 : 6) {
                for (int n = 0; n <= 99; n += k == 19 ? 1 : 9) {
                    Check.due("few(" + k + ", " + n + ") by " + sneezes, x.few(k, n), due(sneezes, k, n));
                }
            }
        }
        x.terms(1, 10);
        Check.due("all sneeze", x.few(20, 20), 0);
        Check.due("but fewer than 20 of 19", x.few(20, 19), ALL);
        Check.finish();
    }

    /** Man by man, from what each part becomes, with all parts kept. */
    private static long due(int sneezes, int k, int n) {
        BigInteger[] parts = new BigInteger[n + 1];
        java.util.Arrays.fill(parts, BigInteger.ZERO);
        parts[0] = BigInteger.valueOf(ALL);
        for (int man = 0; man < n; man++) {
            BigInteger carried = BigInteger.ZERO;
            for (int j = 0; j <= man + 1; j++) {
                BigInteger stays = parts[j].multiply(BigInteger.valueOf(10 - sneezes)).divide(BigInteger.TEN);
                BigInteger goes = parts[j].multiply(BigInteger.valueOf(sneezes)).divide(BigInteger.TEN);
                parts[j] = stays.add(carried);
                carried = goes;
            }
        }
        BigInteger sum = BigInteger.ZERO;
        for (int j = 0; j < k && j <= n; j++) {
            sum = sum.add(parts[j]);
        }
        return sum.longValueExact();
    }
}
