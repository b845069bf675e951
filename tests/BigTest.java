import java.math.BigInteger;

/** Promise 19: big. */
public final class BigTest {
    public static void main(String[] args) {
        arguments();
        smallOnes();
        all();
        Check.end();
    }

    private static void arguments() {
        OneForDog x = new OneForDog();
        int[] noSuch = {-2, 40, 41, 99, 100, 101, 200, 1000, Integer.MIN_VALUE, Integer.MAX_VALUE};
        for (int what : noSuch) {
            Check.due("what " + what, x.big(2, 1, 0, what), -1);
            Check.due("what " + what + " of no number", x.big(1, 0, 10, what), -1);
        }
        Check.due("d 1", x.big(1, 1, 0, 0), -2);
        Check.due("d 13", x.big(13, 1, 0, 0), -2);
        Check.due("m 0", x.big(2, 0, 0, 0), -2);
        Check.due("m 31", x.big(2, 31, 0, 0), -2);
        Check.due("o -1", x.big(2, 1, -1, 0), -2);
        Check.due("o 10", x.big(2, 1, 10, 0), -2);
    }

    private static void smallOnes() {
        OneForDog x = new OneForDog();
        Check.due("4 less 4: digits", x.big(2, 1, 4, -1), 1);
        Check.due("4 less 4", x.big(2, 1, 4, 0), 0);
        Check.due("4 less 5: digits", x.big(2, 1, 5, -1), 1);
        Check.due("4 less 5", x.big(2, 1, 5, 0), 0);
        Check.due("4 less 5 by 2", x.big(2, 1, 5, 102), 0);
        Check.due("16 less 9", x.big(2, 3, 9, 0), 7);
        Check.due("16 less 9: digits", x.big(2, 3, 9, -1), 1);
        Check.due("100 less 81: digits", x.big(10, 1, 9, -1), 2);
        Check.due("100 less 81", x.big(10, 1, 9, 1), 1);
    }

    private static void all() {
        OneForDog x = new OneForDog();
        int[] rests = {2, 3, 7, 10, 64, 97, 98, 99};
        for (int d = 2; d <= 12; d++) {
            for (int m = 1; m <= 30; m++) {
                for (int o = 0; o <= 9; o += 1 + m % 3) {
                    BigInteger number = BigInteger.valueOf(d).pow(m + 1)
                        .subtract(BigInteger.valueOf((d - 1) * o)).max(BigInteger.ZERO);
                    String digits = new StringBuilder(number.toString()).reverse().toString();
                    String call = d + " " + m + " " + o;
                    Check.due("digits of " + call, x.big(d, m, o, -1), digits.length());
                    for (int k = 0; k < 40; k++) {
                        int want = k < digits.length() ? digits.charAt(k) - '0' : 0;
                        Check.due("digit " + k + " of " + call, x.big(d, m, o, k), want);
                    }
                    for (int q : rests) {
                        long want = number.mod(BigInteger.valueOf(q)).longValue();
                        Check.due(call + " by " + q, x.big(d, m, o, 100 + q), want);
                    }
                }
            }
        }
    }
}
