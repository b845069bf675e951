/** The boundary cases of promises 15 to 18: was, up, fair, chance. One test for each sentence. */
public final class EdgesOfWhoTest {
    private static final int LOWEST = Integer.MIN_VALUE, HIGHEST = Integer.MAX_VALUE;
    private static final long NO = Long.MIN_VALUE;

    public static void main(String[] args) {
        wasBounds();
        wasLeastHeap();
        wasNone();
        wasBad();
        upBounds();
        upEmptyRow();
        upUnlike();
        upAllComingOut();
        upFewest();
        upFirstAsARow();
        upNoneOrShorter();
        upNone();
        upBad();
        upFirstNamed();
        fairBounds();
        fairOfAllMen();
        fairLowestTerms();
        fairPart();
        fairNo();
        fairDoesNotComeOut();
        chanceBounds();
        chanceFromOne();
        chanceLowestTerms();
        chancePart();
        chanceNo();
        Check.end();
    }

    private static void wasBounds() {
        Check.sentence(15, "WAS by what is left (0 .. 9999)");
        OneForDog x = Check.men(4, 0);
        Check.due("was(0), an empty row", x.was(0), 0);
        Check.due("was(9999), an empty row", x.was(9999), 9999);
        x.row(0);
        Check.due("was(0)", x.was(0), 1);
        Check.due("was(9998)", x.was(9998), 9999);
    }

    private static void wasLeastHeap() {
        Check.sentence(15, "the least heap (0 .. 9999) of which that is LEFT");
        OneForDog x = Check.men(6, 0, 4, 1);
        Check.village(x, "over 0 i=0;back 99 i=0;over 1 i=1");
        Check.row(x, 0);
        // Of 0, 2, 4 .. 198 the liar hides all.
        Check.due("0 is one, too", x.was(0), 0);
        Check.due("200", x.was(1), 200);
        Check.row(x, 1);
        Check.due("9997 of 9999 and less", x.was(9996), 9997);
        Check.due("10000 is none", x.was(9999), -5);
        Check.due("it is LEFT of 10000", x.left(10000, -1), 9999);
    }

    private static void wasNone() {
        Check.sentence(15, "of which that is LEFT (-5: none)");
        OneForDog x = Check.men(0, 0);
        x.row(0);
        Check.due("was(1)", x.was(1), -5);
        Check.due("was(2)", x.was(2), 4);
        Check.due("was(9999)", x.was(9999), -5);
    }

    private static void wasBad() {
        Check.sentence(15, "BAD");
        OneForDog x = new OneForDog();
        int[] bad = {-1, 10000, LOWEST, HIGHEST};
        for (int left : bad) {
            Check.due("was(" + left + ")", x.was(left), -2);
        }
    }

    private static void upBounds() {
        Check.sentence(16, "UP by a heap at dusk (0 .. 9999) and at dawn (likewise)");
        OneForDog x = Check.men(4, 0, 0, 0);
        Check.village(x, "over 1 h>0;over 0 h=0");
        Check.due("0 to 0: all rows", x.up(0, 0, -1), 5);
        Check.due("9999 to 9999", x.up(9999, 9999, -1), 1);
        Check.due("9999 to 9998", x.up(9999, 9998, 0), 0);
        Check.due("9999 to 0", x.up(9999, 0, -1), 0);
        Check.due("0 to 9999", x.up(0, 9999, -1), 0);
    }

    private static void upEmptyRow() {
        Check.sentence(16, "how many rows of unlike MEN (an empty one, too)");
        OneForDog x = new OneForDog();
        Check.due("nobody, the same heap", x.up(7, 7, -1), 1);
        Check.due("nobody, another heap", x.up(7, 6, -1), 0);
        x.man(0, 0);
        Check.due("one man, the same heap", x.up(7, 7, -1), 1);
        Check.due("one man, what he leaves", x.up(7, 4, -1), 1);
        x.row(0);
        Check.due("THE ROW does not matter", x.up(7, 7, -1), 1);
    }

    private static void upUnlike() {
        Check.sentence(16, "unlike MEN");
        OneForDog x = Check.men(0, 0);
        Check.due("he does not wake twice", x.up(79, 34, -1), 0);
        x.man(0, 0);
        Check.due("another one of his KIND and v does", x.up(79, 34, -1), 2);
        Check.due("no third", x.up(79, 22, -1), 0);
        x.man(0, 0);
        Check.due("a third", x.up(79, 22, -1), 6);
    }

    private static void upAllComingOut() {
        Check.sentence(16, "by whose WAKINGS, all coming out, the one becomes the other");
        OneForDog x = Check.men(0, 0, 4, 0, 3, 0);
        // Of 31 the MAN leaves 20, the honest one 30, the halving one 15; then the honest one of 15 leaves 14.
        Check.due("31 to 20", x.up(31, 20, -1), 1);
        Check.due("31 to 30", x.up(31, 30, -1), 1);
        Check.due("31 to 15", x.up(31, 15, -1), 1);
        Check.due("31 to 14", x.up(31, 14, -1), 1);
        Check.due("31 to 10: 20 less 1 can't be halved", x.up(31, 10, -1), 0);
        Check.due("31 to 10: nobody", x.up(31, 10, 0), -5);
    }

    private static void upFewest() {
        Check.sentence(16, "the one of the fewest MEN");
        OneForDog x = Check.men(4, 0, 4, 0, 3, 0);
        Check.village(x, "over 0 i<6");
        Check.due("8 to 8, rows", x.up(8, 8, -1), 5);
        Check.due("8 to 8: the empty one", x.up(8, 8, 0), -5);
        Check.due("8 to 4: the halving one, with the honest ones ahead or behind", x.up(8, 4, -1), 11);
        Check.due("8 to 4: he alone", x.up(8, 4, 0), 2);
        Check.due("8 to 4: nobody else", x.up(8, 4, 1), -5);
    }

    private static void upFirstAsARow() {
        Check.sentence(16, "of several the first as a row");
        OneForDog x = Check.men(4, 0, 3, 0, 3, 0, 4, 1, 3, 0, 3, 0);
        Check.village(x, "over 0 i<6");
        Check.due("16 to 8: one of four", x.up(16, 8, 0), 1);
        Check.due("16 to 4: first", x.up(16, 4, 0), 1);
        Check.due("16 to 4: second", x.up(16, 4, 1), 2);
        Check.due("16 to 4: no third", x.up(16, 4, 2), -5);
        Check.village(x, "over 0 i=5|i=1;over 9 i=0;over 5 i=2|i=4");
        // Of 17 only 2 and 4 can leave 6, of 6 only 1 and 5 can leave 3; the honest 3 may be up behind each of them.
        Check.due("17 to 3: rows", x.up(17, 3, -1), 12);
        Check.due("17 to 3: first", x.up(17, 3, 0), 2);
        Check.due("17 to 3: second", x.up(17, 3, 1), 1);
    }

    private static void upNoneOrShorter() {
        Check.sentence(16, "(-5: there is none, or it is shorter)");
        OneForDog x = Check.men(0, 0, 0, 0, 0, 0);
        for (int k = 0; k < 6; k++) {
            Check.due("there is none, " + k, x.up(79, 78, k), -5);
            Check.due("an empty one, " + k, x.up(79, 79, k), -5);
            Check.due("one of two, " + k, x.up(79, 34, k), k < 2 ? k : -5);
        }
        Check.due("none, how many", x.up(79, 78, -1), 0);
    }

    private static void upNone() {
        Check.sentence(16, "NONE: k (-1 .. 5)");
        OneForDog x = Check.men(0, 0, 0, 0, 0, 0, 0, 0, 0, 0, 0, 0);
        int[] nothing = {-2, 6, LOWEST, HIGHEST};
        for (int k : nothing) {
            Check.due("up(0, 0, " + k + ")", x.up(0, 0, k), -1);
        }
        Check.due("k -1", x.up(2185, 190, -1), 720);
        Check.due("k 5", x.up(2185, 190, 5), 5);
    }

    private static void upBad() {
        Check.sentence(16, "BAD: heaps");
        OneForDog x = new OneForDog();
        int[] bad = {-1, 10000, LOWEST, HIGHEST};
        for (int heap : bad) {
            Check.due("up(" + heap + ", 0, -1)", x.up(heap, 0, -1), -2);
            Check.due("up(0, " + heap + ", -1)", x.up(0, heap, -1), -2);
            Check.due("up(" + heap + ", " + heap + ", 0)", x.up(heap, heap, 0), -2);
        }
    }

    private static void upFirstNamed() {
        Check.sentence(16, "the first that a call's words name");
        OneForDog x = new OneForDog();
        Check.due("no k and no heaps", x.up(-1, 10000, 6), -1);
        Check.due("no k and no dawn", x.up(0, 10000, -2), -1);
    }

    private static void fraction(OneForDog x, int heap, int man, long above, long below) {
        Check.due("fair(" + heap + ", " + man + ", 0)", x.fair(heap, man, 0), above);
        Check.due("fair(" + heap + ", " + man + ", 1)", x.fair(heap, man, 1), below);
    }

    private static void fairBounds() {
        Check.sentence(17, "FAIR of a MAN from a heap");
        OneForDog x = Check.men(0, 0, 0, 0, 0, 0, 0, 0, 0, 0, 3, 0);
        fraction(x, 0, 0, 0, 1);
        fraction(x, 999999, 5, 0, 1);
        x.row(5);
        // He hides 499999, and all have a sixth of 499999, not of 999998.
        fraction(x, 999999, 5, 5L * 499999, 6);
        fraction(x, 999999, 0, -499999, 6);
        fraction(x, 1, 0, 0, 1);
    }

    private static void fairOfAllMen() {
        Check.sentence(17, "(MEN: all that there are)");
        OneForDog x = Check.men(0, 0);
        Check.row(x, 0);
        fraction(x, 4, 0, 0, 1);
        x.man(4, 0);
        fraction(x, 4, 0, 1, 2);
        x.man(4, 0);
        fraction(x, 4, 0, 2, 3);
        x.man(4, 0);
        fraction(x, 4, 0, 3, 4);
        fraction(x, 4, 3, -1, 4);
    }

    private static void fairLowestTerms() {
        Check.sentence(17, "less THE DOG's part (MEN: all that there are): a fraction in lowest terms");
        OneForDog x = Check.men(0, 0, 4, 0, 4, 0, 4, 0);
        Check.row(x, 0);
        fraction(x, 7, 0, 3, 2);
        fraction(x, 7, 1, -1, 2);
        fraction(x, 13, 0, 3, 1);
        fraction(x, 13, 2, -1, 1);
        fraction(x, 1, 0, 0, 1);
    }

    private static void fairPart() {
        Check.sentence(17, "part 0 above, 1 below the line");
        OneForDog x = Check.men(0, 0, 4, 0);
        Check.row(x, 0);
        Check.due("part 0", x.fair(4, 0, 0), 1);
        Check.due("part 1", x.fair(4, 0, 1), 2);
        Check.due("part -1", x.fair(4, 0, -1), NO);
        Check.due("part 2", x.fair(4, 0, 2), NO);
        Check.due("part, lowest", x.fair(4, 0, LOWEST), NO);
        Check.due("part, highest", x.fair(4, 0, HIGHEST), NO);
    }

    private static void fairNo() {
        Check.sentence(17, "NO");
        OneForDog x = Check.men(0, 0, 0, 0);
        int[] nobody = {-1, 2, 6, LOWEST, HIGHEST};
        int[] noHeap = {-1, 1000000, LOWEST, HIGHEST};
        for (int part = 0; part < 2; part++) {
            for (int man : nobody) {
                Check.due("fair(4, " + man + ", " + part + ")", x.fair(4, man, part), NO);
            }
            for (int heap : noHeap) {
                Check.due("fair(" + heap + ", 0, " + part + ")", x.fair(heap, 0, part), NO);
            }
        }
        fraction(x, 999999, 1, 0, 1);
    }

    private static void fairDoesNotComeOut() {
        Check.sentence(17, "NO: also if it does not come out");
        OneForDog x = Check.men(0, 0, 0, 0);
        Check.village(x, "morning 99");
        Check.row(x, 0, 1);
        for (int part = 0; part < 2; part++) {
            Check.due("the first does not", x.fair(0, 0, part), NO);
            Check.due("the second does not", x.fair(4, 0, part), NO);
            Check.due("the second does not, of the other", x.fair(4, 1, part), NO);
        }
        // 7, 4, 2: what each hides is 2 and 1; MORNING does not matter.
        fraction(x, 7, 0, 1, 2);
        fraction(x, 7, 1, -1, 2);
    }

    private static void odds(OneForDog x, int n, long above, long below) {
        Check.due("chance(" + n + ", 0)", x.chance(n, 0), above);
        Check.due("chance(" + n + ", 1)", x.chance(n, 1), below);
    }

    private static void chanceBounds() {
        Check.sentence(18, "CHANCE: of heaps 1 .. n (1 .. 9999)");
        OneForDog x = new OneForDog();
        odds(x, 1, 1, 1);
        Check.village(x, "morning 0;men 99");
        odds(x, 9999, 1, 99);
        odds(x, 9998, 50, 4999);
    }

    private static void chanceFromOne() {
        Check.sentence(18, "of heaps 1 .. n");
        OneForDog x = new OneForDog();
        Check.village(x, "morning 0");
        odds(x, 1, 0, 1);
        odds(x, 2, 0, 1);
        odds(x, 3, 1, 3);
        odds(x, 5, 1, 5);
        odds(x, 6, 1, 3);
    }

    private static void chanceLowestTerms() {
        Check.sentence(18, "how likely THE NIGHT COMES OUT: a fraction in lowest terms");
        OneForDog x = new OneForDog();
        odds(x, 4, 1, 2);
        odds(x, 7, 3, 7);
        odds(x, 10, 2, 5);
        odds(x, 9999, 1, 3);
        x.man(0, 0);
        Check.row(x, 0, 0, 0, 0, 0, 0, 0, 0);
        odds(x, 9999, 0, 1);
    }

    private static void chancePart() {
        Check.sentence(18, "part likewise");
        OneForDog x = new OneForDog();
        Check.due("part 0", x.chance(4, 0), 1);
        Check.due("part 1", x.chance(4, 1), 2);
        Check.due("part -1", x.chance(4, -1), NO);
        Check.due("part 2", x.chance(4, 2), NO);
        Check.due("part, lowest", x.chance(4, LOWEST), NO);
        Check.due("part, highest", x.chance(4, HIGHEST), NO);
    }

    private static void chanceNo() {
        Check.sentence(18, "NO");
        OneForDog x = new OneForDog();
        int[] bad = {0, -1, 10000, LOWEST, HIGHEST};
        for (int n : bad) {
            Check.due("chance(" + n + ", 0)", x.chance(n, 0), NO);
            Check.due("chance(" + n + ", 1)", x.chance(n, 1), NO);
        }
    }
}
