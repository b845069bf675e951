import java.math.BigInteger;

/** The boundary cases of promise 19: big. One test for each sentence. */
public final class EdgesOfBigTest {
    private static final int LOWEST = Integer.MIN_VALUE, HIGHEST = Integer.MAX_VALUE;

    public static void main(String[] args) {
        ofParts();
        wakings();
        overEachTime();
        belowZero();
        howManyDigits();
        digitFromTheEnd();
        fromZero();
        leavesByQ();
        longerThanAnyWord();
        none();
        bad();
        firstNamed();
        Check.end();
    }

    private static void ofParts() {
        Check.sentence(19, "of PARTS d (2 .. 12)");
        OneForDog x = new OneForDog();
        for (int d = 2; d <= 12; d++) {
            Check.due("the last digit by d " + d, x.big(d, 1, 0, 0), d * d % 10);
            Check.due("by 99 by d " + d, x.big(d, 1, 1, 199), (d * d - d + 1) % 99);
        }
        Check.due("d 1", x.big(1, 1, 0, 0), -2);
        Check.due("d 13", x.big(13, 1, 0, 0), -2);
    }

    private static void wakings() {
        Check.sentence(19, "m WAKINGS (1 .. 30)");
        OneForDog x = new OneForDog();
        Check.due("10, once: digits", x.big(10, 1, 0, -1), 3);
        Check.due("10, thirty times: digits", x.big(10, 30, 0, -1), 32);
        Check.due("10, thirty times: the first digit", x.big(10, 30, 0, 31), 1);
        Check.due("m 0", x.big(10, 0, 0, -1), -2);
        Check.due("m 31", x.big(10, 31, 0, -1), -2);
    }

    private static void overEachTime() {
        Check.sentence(19, "o over each time (0 .. 9)");
        OneForDog x = new OneForDog();
        Check.due("none over", x.big(10, 1, 0, 0), 0);
        Check.due("nine over", x.big(10, 1, 9, 0), 9);
        Check.due("nine over, then", x.big(10, 1, 9, 1), 1);
        Check.due("o -1", x.big(10, 1, -1, 0), -2);
        Check.due("o 10", x.big(10, 1, 10, 0), -2);
    }

    private static void belowZero() {
        Check.sentence(19, "(0, if that would be below 0)");
        OneForDog x = new OneForDog();
        int[][] below = {{2, 1, 5}, {2, 1, 9}, {2, 2, 9}, {3, 1, 5}, {3, 1, 9}, {4, 1, 6}, {8, 1, 9}};
        int[] due = {0, 0, 0, 0, 0, 0, 1};
        for (int i = 0; i < below.length; i++) {
            int[] n = below[i];
            String call = n[0] + ", " + n[1] + ", " + n[2];
            Check.due(call + ": digits", x.big(n[0], n[1], n[2], -1), 1);
            Check.due(call + ": last", x.big(n[0], n[1], n[2], 0), due[i]);
            for (int k = 1; k < 40; k++) {
                Check.due(call + ": digit " + k, x.big(n[0], n[1], n[2], k), 0);
            }
            Check.due(call + ": by 7", x.big(n[0], n[1], n[2], 107), due[i]);
        }
    }

    private static void howManyDigits() {
        Check.sentence(19, "how many digits it has (1 for 0)");
        OneForDog x = new OneForDog();
        Check.due("4 less 4", x.big(2, 1, 4, -1), 1);
        Check.due("4 less 3", x.big(2, 1, 3, -1), 1);
        Check.due("16 less 7", x.big(2, 3, 7, -1), 1);
        Check.due("16 less 6", x.big(2, 3, 6, -1), 2);
        Check.due("100 less 9", x.big(10, 1, 1, -1), 2);
        Check.due("100", x.big(10, 1, 0, -1), 3);
        Check.due("the longest", x.big(12, 30, 0, -1), 34);
    }

    private static void digitFromTheEnd() {
        Check.sentence(19, "0 .. 39 that digit from the end (0 beyond)");
        OneForDog x = new OneForDog();
        int[] digits = {9, 7, 0, 0};
        for (int k = 0; k < digits.length; k++) {
            Check.due("79, digit " + k, x.big(3, 3, 1, k), digits[k]);
        }
        Check.due("79, digit 39", x.big(3, 3, 1, 39), 0);
        Check.due("the longest, its first", x.big(12, 30, 0, 33), 2);
        Check.due("the longest, beyond", x.big(12, 30, 0, 34), 0);
        Check.due("the longest, digit 39", x.big(12, 30, 0, 39), 0);
    }

    private static void fromZero() {
        Check.sentence(19, "its k-th digit from the end (k from 0)");
        OneForDog x = new OneForDog();
        Check.due("100 less 18 is 82, its last", x.big(10, 1, 2, 0), 2);
        Check.due("100 less 18 is 82, its first", x.big(10, 1, 2, 1), 8);
    }

    private static void leavesByQ() {
        Check.sentence(19, "what it leaves by q (2 .. 99)");
        OneForDog x = new OneForDog();
        Check.due("by 2", x.big(3, 3, 1, 102), 1);
        Check.due("by 99", x.big(3, 3, 1, 199), 79);
        Check.due("by 79", x.big(3, 3, 1, 179), 0);
        Check.due("by 1", x.big(3, 3, 1, 101), -1);
        Check.due("by 100", x.big(3, 3, 1, 200), -1);
    }

    /** Numbers that a long could not hold, by another reckoning. */
    private static void longerThanAnyWord() {
        Check.sentence(19, "d to the power m and 1, less (d less 1) times o");
        OneForDog x = new OneForDog();
        for (int d = 2; d <= 12; d++) {
            BigInteger number = BigInteger.valueOf(d).pow(31).subtract(BigInteger.valueOf((d - 1) * 9L));
            String digits = number.toString();
            Check.due("digits by " + d, x.big(d, 30, 9, -1), digits.length());
            for (int k = 0; k < 40; k++) {
                int want = k < digits.length() ? digits.charAt(digits.length() - 1 - k) - '0' : 0;
                Check.due("digit " + k + " by " + d, x.big(d, 30, 9, k), want);
            }
            int rest = number.mod(BigInteger.valueOf(97)).intValue();
            Check.due("what " + d + " leaves by 97", x.big(d, 30, 9, 197), rest);
        }
    }

    private static void none() {
        Check.sentence(19, "NONE: what");
        OneForDog x = new OneForDog();
        int[] nothing = {-2, 40, 99, 100, 101, 200, LOWEST, HIGHEST};
        for (int what : nothing) {
            Check.due("what " + what, x.big(2, 1, 0, what), -1);
        }
    }

    private static void bad() {
        Check.sentence(19, "BAD");
        OneForDog x = new OneForDog();
        int[][] bad = {{1, 1, 0}, {13, 1, 0}, {2, 0, 0}, {2, 31, 0}, {2, 1, -1}, {2, 1, 10}, {LOWEST, 1, 0},
            {HIGHEST, 1, 0}, {2, LOWEST, 0}, {2, HIGHEST, 0}, {2, 1, LOWEST}, {2, 1, HIGHEST}};
        int[] whats = {-1, 0, 39, 102, 199};
        for (int[] n : bad) {
            for (int what : whats) {
                String call = "big(" + n[0] + ", " + n[1] + ", " + n[2] + ", " + what + ")";
                Check.due(call, x.big(n[0], n[1], n[2], what), -2);
            }
        }
    }

    private static void firstNamed() {
        Check.sentence(19, "the first that a call's words name");
        OneForDog x = new OneForDog();
        Check.due("no what, no d", x.big(1, 1, 0, 40), -1);
        Check.due("no what, no m", x.big(2, 31, 0, -2), -1);
        Check.due("no q, no o", x.big(2, 1, 10, 101), -1);
    }
}
