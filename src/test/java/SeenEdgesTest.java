/** What was SEEN at its edges (promises 19 to 21): a test for each sentence that names one. */
final class SeenEdgesTest {
    private static final int BAD = -1, FULL = -3, NONE = -9;
    private static final String SIX = "wall 9 0;".repeat(6);

    public static void main(String[] args) {
        sawByZeroToTwentyHours();
        sawWarmthFrom0To9999();
        sawOfTheFirstWallAndTheLast();
        sawEightAtMost();
        badIsAheadOfFull();
        forgetOfNoneAndOfEight();
        seenBehindNoHours();
        seenBehindTwentyHours();
        seenFromTheBeginning();
        holesOfNothingSeen();
        holesOfAllWalls();
        holesOfNoWalls();
        holeHasAnotherRate();
        holeHasTheLeastRate();
        holeIsOneWallAlone();
        allThatWasSeenIsSo();
        soAsToldIsBitSix();
        Due.end("SeenEdgesTest");
    }

    /** "BEHIND n (0 .. 20) HOURS". */
    private static void sawByZeroToTwentyHours() {
        for (int n = -2; n <= 22; n++) {
            Due.due("saw(" + n + ", 0, 9)", Due.yard(SIX).saw(n, 0, 9), n >= 0 && n <= 20 ? 1 : BAD);
        }
    }

    /** "A WARMTH 0 .. 9999". */
    private static void sawWarmthFrom0To9999() {
        for (int warmth : new int[] {0, 1, 99, 100, 999, 1000, 9998, 9999}) {
            Due.due("saw(0, 0, " + warmth + ")", Due.yard(SIX).saw(0, 0, warmth), 1);
        }
        for (int warmth : new int[] {-1, -9999, 10000, 10001, 65536, Integer.MIN_VALUE, Integer.MAX_VALUE}) {
            Due.due("saw(0, 0, " + warmth + ")", Due.yard(SIX).saw(0, 0, warmth), BAD);
        }
    }

    /** "A WALL": of those that are told. */
    private static void sawOfTheFirstWallAndTheLast() {
        for (int number = 0; number <= 6; number++) {
            for (int w = -1; w <= 6; w++) {
                SeenCools x = Due.yard("wall 9 0;".repeat(number));
                Due.due("saw(0, " + w + ", 9) of " + number, x.saw(0, w, 9), w >= 0 && w < number ? 1 : BAD);
            }
        }
    }

    /** "SEEN (8 at most)": alike ones count, too. */
    private static void sawEightAtMost() {
        SeenCools alike = Due.yard(SIX);
        SeenCools unlike = Due.yard(SIX);
        for (int i = 1; i <= 10; i++) {
            Due.due("saw() of alike ones", alike.saw(0, 0, 9), i <= 8 ? i : FULL);
            Due.due("saw() of unlike ones", unlike.saw(i, i % 6, i), i <= 8 ? i : FULL);
            Due.due("count(4)", alike.count(4), Math.min(8, i));
        }
        // The ninth one is none of what was SEEN.
        SeenCools ninth = Due.yard(SIX);
        for (int i = 1; i <= 8; i++) {
            ninth.saw(i, 0, 9);
        }
        Due.due("saw() of a ninth, not so", ninth.saw(0, 0, 8), FULL);
        Due.due("holes(-1)", ninth.holes(-1), 127);
    }

    /** "The first of these: BAD, .., FULL". */
    private static void badIsAheadOfFull() {
        SeenCools x = Due.yard(SIX);
        for (int i = 1; i <= 8; i++) {
            x.saw(0, 0, 9);
        }
        Due.due("saw(0, 0, 9)", x.saw(0, 0, 9), FULL);
        Due.due("saw(-1, 0, 9)", x.saw(-1, 0, 9), BAD);
        Due.due("saw(21, 0, 9)", x.saw(21, 0, 9), BAD);
        Due.due("saw(0, 6, 9)", x.saw(0, 6, 9), BAD);
        Due.due("saw(0, -1, 9)", x.saw(0, -1, 9), BAD);
        Due.due("saw(0, 0, 10000)", x.saw(0, 0, 10000), BAD);
        Due.due("saw(0, 0, -1)", x.saw(0, 0, -1), BAD);
    }

    /** "Nothing was SEEN: how much there was", and there is room for eight again. */
    private static void forgetOfNoneAndOfEight() {
        for (int many = 0; many <= 8; many++) {
            SeenCools x = Due.yard(SIX);
            for (int i = 1; i <= many; i++) {
                x.saw(0, 0, 0);
            }
            Due.due("forget() of " + many, x.forget(), many);
            Due.due("count(4) behind it", x.count(4), 0);
            Due.due("holes(-1) behind it", x.holes(-1), 127);
            Due.due("forget() of none", x.forget(), 0);
            for (int i = 1; i <= 9; i++) {
                Due.due("saw() behind it", x.saw(0, 0, 9), i <= 8 ? i : FULL);
            }
        }
    }

    /** BEHIND 0 HOURS: what is told, whatever the RATES are. */
    private static void seenBehindNoHours() {
        SeenCools x = Due.yard("wall 90 3;wall 10 3;");
        x.saw(0, 0, 90);
        Due.due("holes(-1) of what is told", x.holes(-1), 64 + 3);
        x.saw(0, 1, 11);
        Due.due("holes(-1) of what is not", x.holes(-1), 0);
    }

    /** BEHIND 20 HOURS: all WORKS of 20 HOURS have come, no more. */
    private static void seenBehindTwentyHours() {
        for (int warmth = 18; warmth <= 22; warmth++) {
            SeenCools x = Due.yard("wall 0 0;work 0 1 15 15;");
            x.saw(20, 0, warmth);
            Due.due("holes(-1) of " + warmth + " behind 20", x.holes(-1) & 64, warmth == 20 ? 64 : 0);
        }
        SeenCools hot = Due.yard("wall 99 0;work 0 20 15 15;");
        hot.saw(20, 0, 499);
        Due.due("holes(-1)", hot.holes(-1), 64);
    }

    /** "From the beginning (as told, all OPEN, no MIRRORS)", whatever is now, and whatever an IMAGE had. */
    private static void seenFromTheBeginning() {
        SeenCools x = Due.yard("wall 50 5;wall 0 0;wall 0 0;sees 0 1 4;sees 0 2 6;work 1 7 1 0;");
        x.saw(1, 0, 25);
        x.saw(1, 1, 17);
        x.saw(1, 2, 15);
        Due.due("holes(-1)", x.holes(-1), 64 + 6);
        x.keep(0);
        x.shut(0, 1);
        x.mirror(1, 1);
        x.shut(2, 1);
        Due.hours(x, 9);
        Due.due("holes(-1) later on", x.holes(-1), 64 + 6);
        x.back(0);
        Due.due("count(4) behind back()", x.count(4), 3);
        Due.due("holes(-1) behind back()", x.holes(-1), 64 + 6);
    }

    /** All that was SEEN is so, if nothing was. */
    private static void holesOfNothingSeen() {
        for (int number = 0; number <= 6; number++) {
            SeenCools x = Due.yard("wall 9 0;".repeat(number));
            Due.due("holes(-1) of " + number, x.holes(-1), 64 + (1 << number) - 1);
            for (int w = 0; w < number; w++) {
                Due.due("holes(" + w + ") of " + number, x.holes(w), 1);
            }
        }
    }

    /** "WALLS (bits)", "(w = -1)": each of six, and none beyond. */
    private static void holesOfAllWalls() {
        for (int w = 0; w < 6; w++) {
            SeenCools x = Due.yard("wall 90 3;".repeat(6));
            x.saw(1, w, 45);
            Due.due("holes(-1) of " + w, x.holes(-1), 1 << w);
            for (int other = 0; other < 6; other++) {
                Due.due("holes(" + other + ") of " + w, x.holes(other), other == w ? 5 : NONE);
            }
            Due.due("holes(6)", x.holes(6), BAD);
            Due.due("holes(-2)", x.holes(-2), BAD);
        }
    }

    /** With no WALLS nothing can be SEEN: it is so as told. */
    private static void holesOfNoWalls() {
        SeenCools x = new SeenCools();
        Due.due("holes(-1) of none", x.holes(-1), 64);
        Due.due("holes(0) of none", x.holes(0), BAD);
        Due.due("holes(-2) of none", x.holes(-2), BAD);
    }

    /** "Another RATE (0 .. 9, not the told one)": each told one, each other one. */
    private static void holeHasAnotherRate() {
        for (int told = 0; told <= 9; told++) {
            for (int rate = 0; rate <= 9; rate++) {
                SeenCools x = Due.yard("wall 90 " + told + ";");
                x.saw(1, 0, 90 - 9 * rate);
                String when = " of RATE " + rate + ", told " + told;
                Due.due("holes(-1)" + when, x.holes(-1), rate == told ? 64 : 1);
                Due.due("holes(0)" + when, x.holes(0), rate == told ? NONE : rate);
                Due.due("wall(0, 1)" + when, x.wall(0, 1), told);
            }
            // It gives 89 at most: no RATE is above 9.
            SeenCools ten = Due.yard("wall 90 " + told + ";");
            ten.saw(1, 0, 0);
            Due.due("holes(-1) of RATE 10", ten.holes(-1), 0);
        }
    }

    /** "RATE of such a WALL, the least": of 1, where RATES don't matter, and of 9, where some are alike. */
    private static void holeHasTheLeastRate() {
        for (int told = 0; told <= 9; told++) {
            SeenCools x = Due.yard("wall 1 " + told + ";");
            x.saw(20, 0, 1);
            Due.due("holes(0) of 1, told " + told, x.holes(0), told == 0 ? 1 : 0);
            Due.due("holes(-1) of 1, told " + told, x.holes(-1), 65);
        }
        // 4 by RATES 5, 6, 7 gives 2.
        int[] due = {5, 5, 5, 5, 5, 6, 5, 5, 5, 5};
        for (int told = 0; told <= 9; told++) {
            SeenCools x = Due.yard("wall 4 " + told + ";");
            x.saw(1, 0, 2);
            Due.due("holes(0) of 4, told " + told, x.holes(0), due[told]);
            Due.due("holes(-1) of 4, told " + told, x.holes(-1), told >= 5 && told <= 7 ? 65 : 1);
        }
    }

    /** "All others as told": two WALLS with other RATES are no hole. */
    private static void holeIsOneWallAlone() {
        SeenCools x = Due.yard("wall 90 3;wall 80 3;");
        x.saw(1, 0, 45);
        Due.due("holes(-1) of one", x.holes(-1), 1);
        x.saw(1, 1, 40);
        Due.due("holes(-1) of two", x.holes(-1), 0);
        Due.due("holes(0) of two", x.holes(0), NONE);
        Due.due("holes(1) of two", x.holes(1), NONE);
        // What one WALL has may be by another one's RATE.
        SeenCools by = Due.yard("wall 90 3;wall 0 0;sees 0 1 10;");
        by.saw(1, 1, 81);
        Due.due("holes(-1) by another", by.holes(-1), 1);
        Due.due("holes(0) by another", by.holes(0), 9);
        Due.due("holes(1) by another", by.holes(1), NONE);
    }

    /** "All that was SEEN so": the first, the last, and what can't be together. */
    private static void allThatWasSeenIsSo() {
        for (int wrong = 0; wrong < 8; wrong++) {
            SeenCools x = Due.yard("wall 90 0;wall 7 1;");
            for (int i = 0; i < 8; i++) {
                x.saw(i, 0, i == wrong ? 89 : 90);
            }
            Due.due("holes(-1) where " + wrong + " is not so", x.holes(-1), 0);
        }
        SeenCools both = Due.yard("wall 90 3;");
        both.saw(1, 0, 63);
        both.saw(1, 0, 45);
        Due.due("holes(-1) of what can't be together", both.holes(-1), 0);
        Due.due("holes(0) of what can't be together", both.holes(0), NONE);
    }

    /** "(Bit 6: it is so as told)": with holes and without. */
    private static void soAsToldIsBitSix() {
        SeenCools x = Due.yard("wall 90 3;wall 5 3;");
        x.saw(1, 0, 63);
        Due.due("holes(-1) as told, or by what is no matter", x.holes(-1), 64 + 2);
        Due.due("holes(0)", x.holes(0), NONE);
        Due.due("holes(1)", x.holes(1), 0);
        x.saw(1, 1, 4);
        Due.due("holes(-1) as told, or by a like RATE", x.holes(-1), 64 + 2);
        Due.due("holes(1)", x.holes(1), 2);
        x.forget();
        x.saw(1, 1, 5);
        Due.due("holes(-1) not as told", x.holes(-1), 2);
    }
}
