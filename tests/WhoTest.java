/** Promises 15 to 18: was, up, fair, chance. */
public final class WhoTest {
    public static void main(String[] args) {
        was();
        upArguments();
        upAlike();
        upOrder();
        upByWakings();
        fair();
        chance();
        Check.end();
    }

    private static void was() {
        OneForDog x = Check.men(0, 0, 4, 0, 0, 2);
        Check.due("was(-1)", x.was(-1), -2);
        Check.due("was(10000)", x.was(10000), -2);
        Check.due("was(9999), no row", x.was(9999), 9999);
        Check.due("was(0), no row", x.was(0), 0);
        Check.row(x, 0, 2, 0);
        Check.due("was(22)", x.was(22), 79);
        Check.due("was(21)", x.was(21), -5);
        Check.due("was(6): the morning does not matter", x.was(6), 25);
        Check.due("was(2958)", x.was(2958), 9988);
        Check.due("was(2966): from above 9999", x.was(2966), -5);
        Check.row(x, 1);
        Check.due("was(9998) of an honest one", x.was(9998), 9999);
        Check.due("was(9999) of an honest one", x.was(9999), -5);
        Check.village(x, "over 9 h>4;over 1 h<5;back 5 h=1");
        Check.row(x, 0);
        Check.due("the least of several", x.was(0), 1);
        Check.due("was(20)", x.was(20), 39);
        Check.due("was(25)", x.was(25), 31);
        Check.due("asking did nothing", x.told(4), 0);
    }

    private static void upArguments() {
        OneForDog x = Check.men(0, 0);
        Check.due("k -2", x.up(1, 1, -2), -1);
        Check.due("k 6", x.up(1, 1, 6), -1);
        Check.due("k 6 and bad heaps", x.up(-1, -1, 6), -1);
        Check.due("dusk -1", x.up(-1, 0, 0), -2);
        Check.due("dawn -1", x.up(0, -1, 0), -2);
        Check.due("dusk 10000", x.up(10000, 0, 0), -2);
        Check.due("dawn 10000", x.up(0, 10000, 0), -2);
        Check.due("dusk and dawn 9999", x.up(9999, 9999, -1), 1);
        Check.due("dusk and dawn 0", x.up(0, 0, -1), 1);
        Check.due("dusk 1, dawn 0", x.up(1, 0, 0), 0);
        Check.due("of 0 none becomes 1", x.up(0, 1, -1), 0);
        Check.due("k 5 of an empty row", x.up(9999, 9999, 5), -5);
    }

    private static void upAlike() {
        OneForDog x = Check.men(0, 0, 0, 0, 0, 0, 0, 0, 0, 0, 0, 0);
        int heap = 2185;
        int dawn = heap;
        int rows = 1;
        for (int up = 1; up <= 6; up++) {
            dawn = (dawn - 1) / 3 * 2;
            rows *= 7 - up;
            Check.due(up + " are up, rows", x.up(heap, dawn, -1), rows);
            for (int k = 0; k < 6; k++) {
                Check.due(up + " are up, " + k, x.up(heap, dawn, k), k < up ? k : -5);
            }
        }
        Check.due("a waking fails on the way", x.up(2186, 1456, -1), 0);
        Check.due("none of it", x.up(2186, 1456, 0), -5);
    }

    private static void upOrder() {
        // Of 13: the halving 6; the double one 4; the sharing one (4 parts) 9; the honest one (2 parts) 12.
        OneForDog x = Check.men(4, 0, 1, 2, 2, 0, 3, 0);
        Check.due("13 to 12", x.up(13, 12, -1), 1);
        Check.due("13 to 12: who", x.up(13, 12, 0), 0);
        Check.due("13 to 9", x.up(13, 9, -1), 1);
        Check.due("13 to 9: who", x.up(13, 9, 0), 1);
        Check.due("13 to 4", x.up(13, 4, -1), 2);
        Check.due("13 to 4: the fewest men", x.up(13, 4, 0), 2);
        Check.due("13 to 4: no second", x.up(13, 4, 1), -5);
        Check.due("13 to 8", x.up(13, 8, 0), 1);
        Check.due("13 to 8: the second", x.up(13, 8, 1), 0);
        Check.due("13 to 13", x.up(13, 13, 0), -5);
        OneForDog y = Check.men(3, 0, 1, 0, 4, 0, 1, 0);
        Check.due("7 to 1 of halving ones", y.up(7, 1, -1), 6);
        Check.due("the first as a row", y.up(7, 1, 0), 0);
        Check.due("the first as a row, then", y.up(7, 1, 1), 1);
        Check.due("7 to 3", y.up(7, 3, -1), 3);
        Check.due("7 to 3: first", y.up(7, 3, 0), 0);
        Check.village(y, "over 0 i=0");
        Check.due("the honest one leaves all: 8 to 8", y.up(8, 8, -1), 2);
        Check.due("8 to 8: the empty row is least", y.up(8, 8, 0), -5);
        Check.due("8 to 4: with the honest one or without", y.up(8, 4, -1), 9);
        Check.due("8 to 4: without is least", y.up(8, 4, 1), -5);
    }

    private static void upByWakings() {
        OneForDog x = Check.men(4, 0, 4, 1);
        Check.village(x, "over 2 w=0&i=0;over 3 w=1&i=1;over 4 w=0&i=1;over 7 w>1");
        Check.due("10 to 8", x.up(10, 8, 0), 0);
        Check.due("10 to 5", x.up(10, 5, -1), 0);
        Check.due("14 to 9", x.up(14, 9, -1), 1);
        Check.due("14 to 9: first", x.up(14, 9, 0), 0);
        Check.due("14 to 9: second", x.up(14, 9, 1), 1);
        x.heap(4);
        x.wake(0);
        Check.due("one waking on", x.up(14, 9, -1), 0);
        Check.due("one waking on, 18 to 15", x.up(18, 15, 0), 1);
    }

    private static void fraction(OneForDog x, int heap, int man, long above, long below) {
        Check.due("fair(" + heap + ", " + man + ", 0)", x.fair(heap, man, 0), above);
        Check.due("fair(" + heap + ", " + man + ", 1)", x.fair(heap, man, 1), below);
    }

    private static void fair() {
        OneForDog x = Check.men(0, 0, 0, 1, 0, 2);
        fraction(x, 0, 0, 0, 1);
        fraction(x, 78, 2, 0, 1);
        Check.row(x, 0, 1, 2);
        fraction(x, 79, 0, 8, 1);
        fraction(x, 79, 1, -1, 1);
        fraction(x, 79, 2, -7, 1);
        // 25, 16, 10, 6: he hides 8, 5, 3, and all have 2; fair were 22 thirds.
        fraction(x, 25, 0, 8, 3);
        Check.due("part -1", x.fair(79, 0, -1), OneForDog.NO);
        Check.due("part 2", x.fair(79, 0, 2), OneForDog.NO);
        Check.due("man -1", x.fair(79, -1, 0), OneForDog.NO);
        Check.due("man 3", x.fair(79, 3, 0), OneForDog.NO);
        Check.due("heap -1", x.fair(-1, 0, 0), OneForDog.NO);
        Check.due("heap 1000000", x.fair(1000000, 0, 0), OneForDog.NO);
        Check.due("78 does not come out", x.fair(78, 0, 0), OneForDog.NO);
        Check.due("78 does not come out, below", x.fair(78, 0, 1), OneForDog.NO);
        x.man(0, 3);
        // Of four: 26 and 22 by 4, less 76 by 4.
        fraction(x, 79, 0, 25, 2);
        fraction(x, 79, 3, -27, 2);
        Check.row(x, 0, 0);
        fraction(x, 52, 0, 17 + 11 - 7, 1);
    }

    private static void odds(OneForDog x, int n, long above, long below) {
        Check.due("chance(" + n + ", 0)", x.chance(n, 0), above);
        Check.due("chance(" + n + ", 1)", x.chance(n, 1), below);
    }

    private static void chance() {
        OneForDog x = Check.men(0, 0, 0, 1, 0, 2);
        int[] bad = {-1, 0, 10000};
        for (int n : bad) {
            Check.due("chance(" + n + ", 0)", x.chance(n, 0), OneForDog.NO);
            Check.due("chance(" + n + ", 1)", x.chance(n, 1), OneForDog.NO);
        }
        Check.due("part -1", x.chance(1, -1), OneForDog.NO);
        Check.due("part 2", x.chance(1, 2), OneForDog.NO);
        odds(x, 1, 1, 1);
        odds(x, 2, 1, 2);
        odds(x, 3, 1, 3);
        odds(x, 4, 1, 2);
        odds(x, 10, 2, 5);
        odds(x, 9999, 1, 3);
        Check.row(x, 0, 1, 2);
        odds(x, 78, 0, 1);
        odds(x, 79, 1, 79);
        odds(x, 1000, 3, 250);
        Check.village(x, "morning 0");
        Check.row(x);
        odds(x, 3, 1, 3);
        odds(x, 2, 0, 1);
    }
}
