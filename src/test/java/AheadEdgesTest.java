/** What comes, at its edges (promises 12 to 18): a test for each sentence that names one. */
final class AheadEdgesTest {
    private static final int BAD = -1, NONE = -9, NO = -1000000;
    private static final String GROWS = "wall 0 0;work 0 20 15 15;";
    /** At HOUR 0 it is 208 HOURS from its REST. */
    private static final String FAR_FROM_REST = "wall 39 3;wall 9 3;sees 1 0 9;work 0 13 10 7;";

    public static void main(String[] args) {
        behindZeroToFiftyHours();
        behindFromNowOn();
        firstIsNow();
        firstIsAboveTheLimit();
        firstBehindFiftyHours();
        firstOfSeveralIsTheLeast();
        firstIsNone();
        restIsNow();
        restOfAllWarmths();
        restWhateverIsInBetween();
        restBehindTwoHundredHours();
        restIsNone();
        coolestByZeroToTwentyHours();
        coolestWhateverIsShutNow();
        coolestWithMirrorsAsTheyAre();
        coolestOfSeveralTheLeastBits();
        coolestOfNoWalls();
        busyWithWorksAsTold();
        busyWhateverItsHoursAre();
        busyUpToTheLimit();
        busyBehindOneToSixteenHours();
        busyForAllWallsTogether();
        busyOfSeveralTheLeastBits();
        busyNoneAndNoHours();
        blanketWarmthFrom0To999();
        blanketByZeroToTwentyHours();
        blanketIsWarmAtLeast();
        blanketBesidesTheWall();
        blanketOnTopOfMirrorsNow();
        blanketFewestAheadOfLeastBits();
        harmOfOneToFifty();
        harmBehindEightHours();
        harmOfAllWallsTogether();
        harmIsLeastOfSeveralAtTheLeast();
        harmOfNoWalls();
        Due.end("AheadEdgesTest");
    }

    /** "BEHIND n (0 .. 50) HOURS". */
    private static void behindZeroToFiftyHours() {
        SeenCools x = Due.yard("wall 5 0;work 0 1 15 15;");
        for (int n = -2; n <= 52; n++) {
            Due.due("behind(" + n + ", 0)", x.behind(n, 0), n >= 0 && n <= 50 ? 5 + n : BAD);
        }
        Due.due("now(0)", x.now(0), 0);
    }

    /** "From NOW on": the HOURS that come have the numbers that follow the one that is. */
    private static void behindFromNowOn() {
        for (int hour = 0; hour <= 17; hour++) {
            SeenCools x = Due.yard("wall 0 0;work 0 1 1 0;");
            Due.hours(x, hour);
            for (int n = 0; n <= 50; n++) {
                Due.due("behind(" + n + ", 0) at HOUR " + hour, x.behind(n, 0), (hour + n + 7) / 8);
            }
        }
    }

    private static void first(SeenCools x, String when, int hours, int w) {
        Due.due("first(0) " + when, x.first(0), hours);
        Due.due("first(1) " + when, x.first(1), w);
    }

    /** "(0 .. 50; 0: now)". */
    private static void firstIsNow() {
        first(Due.yard("wall 0 0;wall 10 9;limit 0;"), "of what is TOO WARM now", 0, 1);
        first(Due.yard("wall 0 0;wall 9 0;work 1 1 1 0;limit 0;"), "of what is TOO WARM an HOUR on", 1, 1);
        first(Due.yard("wall 9 9;wall 0 0;sees 0 1 10;limit 0;"), "of what is never", NONE, NONE);
    }

    /** "Above it is TOO WARM": at the LIMIT none is. */
    private static void firstIsAboveTheLimit() {
        first(Due.yard("wall 99 0;"), "at the LIMIT", NONE, NONE);
        first(Due.yard("wall 99 0;work 0 1 0 2;"), "above the LIMIT", 6, 0);
        first(Due.yard("wall 79 0;limit 7;"), "at LIMIT 79", NONE, NONE);
        first(Due.yard("wall 80 0;limit 7;"), "above LIMIT 79", 0, 0);
    }

    /** "(0 .. 50 ..)": the last one, and one too far. */
    private static void firstBehindFiftyHours() {
        first(Due.yard("wall 51 0;work 0 1 15 15;"), "behind 49", 49, 0);
        first(Due.yard("wall 50 0;work 0 1 15 15;"), "behind 50", 50, 0);
        first(Due.yard("wall 49 0;work 0 1 15 15;"), "behind 51", NONE, NONE);
        SeenCools x = Due.yard("wall 49 0;work 0 1 15 15;");
        x.hour();
        first(x, "an HOUR on", 50, 0);
    }

    /** "Which, of several the least": of those that are TOO WARM first. */
    private static void firstOfSeveralIsTheLeast() {
        first(Due.yard("wall 90 0;".repeat(6) + "limit 0;"), "of six", 0, 0);
        first(Due.yard("wall 0 0;".repeat(4) + "wall 9 0;wall 9 0;work 4 1 4 0;work 5 9 4 0;limit 0;"), "of two", 3, 4);
        first(Due.yard("wall 8 0;wall 8 0;wall 8 0;work 0 9 2 0;work 1 9 4 0;work 2 9 1 0;limit 0;"), "of three", 1, 2);
    }

    /** "NONE": with no WALLS, and with WALLS of which none is. */
    private static void firstIsNone() {
        first(new SeenCools(), "of none", NONE, NONE);
        first(Due.yard("limit 0;"), "of none with a LIMIT", NONE, NONE);
        first(Due.yard("wall 9 0;wall 9 0;limit 0;"), "of those that stay", NONE, NONE);
    }

    /** "The fewest HOURS (0 .. 200)": 0, where all is at rest, or no WALLS are. */
    private static void restIsNow() {
        Due.due("rest() of none", new SeenCools().rest(), 0);
        Due.due("rest() of cold ones", Due.yard("wall 0 9;wall 0 9;sees 0 1 5;").rest(), 0);
        Due.due("rest() of those that give nothing", Due.yard("wall 99 0;wall 1 9;").rest(), 0);
        // 10, 5, 3, 2, 1: an HOUR fewer with each that goes by.
        SeenCools x = Due.yard("wall 10 5;");
        for (int due : new int[] {4, 3, 2, 1, 0, 0}) {
            Due.due("rest() at HOUR " + x.now(0), x.rest(), due);
            x.hour();
        }
    }

    /** "All WARMTHS": the last one to rest counts. */
    private static void restOfAllWarmths() {
        Due.due("rest() with one at rest ahead", Due.yard("wall 99 0;wall 10 5;").rest(), 4);
        Due.due("rest() with one at rest behind", Due.yard("wall 10 5;wall 99 0;").rest(), 4);
        Due.due("rest() with one that never is", Due.yard("wall 10 5;" + "wall 0 0;work 1 1 1 0;").rest(), NONE);
        Due.due("rest() of the sixth", Due.yard("wall 0 0;".repeat(5) + "wall 10 5;").rest(), 4);
    }

    /** "(Whatever they are in between)": WORKS come, and all of it is given off in 8 HOURS, not fewer. */
    private static void restWhateverIsInBetween() {
        SeenCools x = Due.yard("wall 1 9;work 0 20 1 0;");
        Due.hours(x, 3);
        int[] warmths = {1, 1, 1, 1, 1, 1, 21, 3, 1};
        for (int n = 0; n < warmths.length; n++) {
            Due.due("behind(" + n + ", 0)", x.behind(n, 0), warmths[n]);
        }
        Due.due("rest()", x.rest(), 0);
        // What comes every 4 HOURS and is not given off is as it was never: 4 HOURS are no 8.
        Due.due("rest() of what grows by 2 each 8 HOURS", Due.yard("wall 0 0;work 0 1 1 1;").rest(), NONE);
    }

    /** "(0 .. 200)": the last one, and one too far. */
    private static void restBehindTwoHundredHours() {
        SeenCools x = Due.yard(FAR_FROM_REST);
        Due.hours(x, 7);
        Due.due("rest() 201 HOURS ahead", x.rest(), NONE);
        x.hour();
        Due.due("rest() 200 HOURS ahead", x.rest(), 200);
        x.hour();
        Due.due("rest() 199 HOURS ahead", x.rest(), 199);
        Due.hours(x, 199);
        Due.due("rest() at rest", x.rest(), 0);
    }

    /** "NONE": what comes is never given off. */
    private static void restIsNone() {
        Due.due("rest() of what grows", Due.yard(GROWS).rest(), NONE);
        Due.due("rest() of what grows by 1 in 8 HOURS", Due.yard("wall 0 0;work 0 1 0 8;").rest(), NONE);
        SeenCools shut = Due.yard("wall 0 9;work 0 1 1 0;");
        shut.shut(0, 1);
        Due.due("rest() of a SHUT one", shut.rest(), NONE);
    }

    private static void coolest(SeenCools x, int n, int warm, int set) {
        Due.due("coolest(" + n + ", 0)", x.coolest(n, 0), warm);
        Due.due("coolest(" + n + ", 1)", x.coolest(n, 1), set);
    }

    /** "COOLEST by n (0 .. 20)". */
    private static void coolestByZeroToTwentyHours() {
        SeenCools x = Due.yard(GROWS);
        for (int n = -2; n <= 22; n++) {
            boolean may = n >= 0 && n <= 20;
            coolest(x, n, may ? 20 * n : BAD, may ? 0 : BAD);
        }
        SeenCools two = Due.yard("wall 40 5;wall 10 5;sees 0 1 5;");
        coolest(two, 0, 40, 0);
        coolest(two, 1, 20, 2);
    }

    /** "All ways to have WALLS SHUT (bits; all others OPEN ..)": what is SHUT now is no matter. */
    private static void coolestWhateverIsShutNow() {
        for (int shut = 0; shut < 64; shut++) {
            SeenCools x = Due.yard("wall 9 0;wall 9 0;wall 9 0;wall 9 0;wall 50 5;wall 40 0;sees 4 5 10;");
            for (int w = 0; w < 6; w++) {
                x.shut(w, shut >> w & 1);
            }
            coolest(x, 1, 40, 32);
        }
    }

    /** "(.., MIRRORS as they are)". */
    private static void coolestWithMirrorsAsTheyAre() {
        SeenCools x = Due.yard("wall 40 0;wall 50 5;sees 0 1 10;");
        coolest(x, 1, 40, 1);
        x.mirror(0, 1);
        coolest(x, 1, 50, 0);
        x.mirror(1, 1);
        coolest(x, 1, 50, 0);
        x.mirror(0, 0);
        coolest(x, 1, 40, 1);
    }

    /** "Of several the least bits": not the fewest, and not those that are SHUT now. */
    private static void coolestOfSeveralTheLeastBits() {
        coolest(Due.yard("wall 9 0;".repeat(6)), 20, 9, 0);
        // 2 has of 0 and of 1: both SHUT, or it alone, and it stays as it is.
        SeenCools x = Due.yard("wall 40 9;wall 30 1;wall 70 0;sees 1 2 5;sees 0 2 5;");
        coolest(x, 1, 70, 3);
        x.shut(2, 1);
        coolest(x, 1, 70, 3);
        Due.due("behind(1, 2) when 2 is SHUT", x.behind(1, 2), 70);
        coolest(Due.yard("wall 9 0;wall 50 5;wall 40 0;sees 1 2 10;"), 1, 40, 4);
    }

    /** "NONE: no WALLS", behind BAD. */
    private static void coolestOfNoWalls() {
        for (int n = -1; n <= 21; n++) {
            int due = n >= 0 && n <= 20 ? NONE : BAD;
            coolest(new SeenCools(), n, due, due);
        }
        Due.due("coolest(0, 2) of none", new SeenCools().coolest(0, 2), BAD);
        Due.due("coolest(0, -1) of none", new SeenCools().coolest(0, -1), BAD);
    }

    private static void busy(SeenCools x, int w, int many, int bits) {
        Due.due("busy(" + w + ", 0)", x.busy(w, 0), many);
        Due.due("busy(" + w + ", 1)", x.busy(w, 1), bits);
    }

    /** "What it has is as told": nothing, if it is not told; all 8 HOURS of that are borne. */
    private static void busyWithWorksAsTold() {
        busy(Due.yard("wall 99 0;"), 0, 8, 255);
        busy(Due.yard("wall 99 0;work 0 0 0 0;"), 0, 8, 255);
        busy(Due.yard("wall 99 0;work 0 1 0 0;"), 0, 0, 0);
        busy(Due.yard("wall 0 0;work 0 20 0 0;limit 31;"), 0, 7, 127);
        busy(Due.yard("wall 0 0;work 0 20 0 0;limit 32;"), 0, 8, 255);
    }

    /** "Of all its HOURS (0 .. 255 ..) from now on": those it has are no matter, for it alone. */
    private static void busyWhateverItsHoursAre() {
        for (int hours : new int[] {0, 1, 128, 254, 255}) {
            String text = "wall 0 0;wall 0 0;work 0 10 " + hours % 16 + " " + hours / 16 + ";work 1 1 15 15;limit 5;";
            busy(Due.yard(text), 0, 2, 3);
        }
        // The other one's HOURS stay: it has 16 more behind 16 HOURS.
        busy(Due.yard("wall 0 0;wall 43 0;work 0 10 0 0;work 1 1 15 15;limit 5;"), 0, 2, 3);
        busy(Due.yard("wall 0 0;wall 44 0;work 0 10 0 0;work 1 1 15 15;limit 5;"), 0, NONE, NONE);
    }

    /** "None is TOO WARM": at the LIMIT it isn't; each of its HOURS comes twice in 16. */
    private static void busyUpToTheLimit() {
        busy(Due.yard("wall 0 0;work 0 4 0 0;limit 0;"), 0, 1, 1);
        busy(Due.yard("wall 1 0;work 0 4 0 0;limit 0;"), 0, 1, 1);
        busy(Due.yard("wall 2 0;work 0 4 0 0;limit 0;"), 0, 0, 0);
        busy(Due.yard("wall 0 0;work 0 5 0 0;limit 0;"), 0, 0, 0);
    }

    /** "BEHIND 1 to 16 HOURS": not now, and not behind 17. */
    private static void busyBehindOneToSixteenHours() {
        busy(Due.yard("wall 0 0;wall 20 9;limit 1;"), 0, 8, 255);
        // 1 is left of it, and 18 come: 19 behind 1 HOUR, and behind 9.
        busy(Due.yard("wall 0 0;wall 10 9;work 1 18 1 0;limit 1;"), 0, 8, 255);
        // 2 are left of it, and 18 come: 20 behind 1 HOUR, and never again.
        busy(Due.yard("wall 0 0;wall 15 9;work 1 18 1 0;limit 1;"), 0, NONE, NONE);
        busy(Due.yard("wall 0 0;wall 83 0;work 1 1 15 15;"), 0, 8, 255);
        busy(Due.yard("wall 0 0;wall 84 0;work 1 1 15 15;"), 0, NONE, NONE);
        SeenCools later = Due.yard("wall 0 0;wall 83 0;work 1 1 15 15;");
        later.hour();
        busy(later, 0, NONE, NONE);
    }

    /** "None is TOO WARM": no other WALL by what it has of this one's WORKS. */
    private static void busyForAllWallsTogether() {
        // The other one has 9 of 10 an HOUR later: that of the 16th too late, so that 0 and 7 are borne together.
        SeenCools x = Due.yard("wall 0 9;wall 0 0;sees 0 1 10;work 0 10 0 0;limit 2;");
        busy(x, 0, 2, 129);
        x.shut(1, 1);
        busy(x, 0, 8, 255);
        busy(x, 1, 8, 255);
    }

    /** "Those that are most ..., of several the least bits", whatever the HOUR is. */
    private static void busyOfSeveralTheLeastBits() {
        for (int hour = 0; hour <= 9; hour++) {
            SeenCools x = Due.yard("wall 0 0;work 0 10 0 0;limit 6;");
            Due.hours(x, hour);
            busy(x, 0, 3, 7);
        }
        // The first HOUR and the last are not borne together, nor is the first: most is ahead of least bits.
        busy(Due.yard("wall 19 5;work 0 10 0 0;limit 1;"), 0, 6, 238);
    }

    /** "NONE", where another one is TOO WARM or its own WARMTH is; no HOURS at all are 0 and not NONE. */
    private static void busyNoneAndNoHours() {
        busy(Due.yard("wall 9 0;work 0 20 15 15;limit 0;"), 0, 0, 0);
        busy(Due.yard("wall 10 0;work 0 20 15 15;limit 0;"), 0, NONE, NONE);
        busy(Due.yard("wall 0 0;wall 10 0;limit 0;"), 0, NONE, NONE);
        busy(Due.yard("wall 0 0;".repeat(5) + "wall 10 0;limit 0;"), 5, NONE, NONE);
    }

    /** "A WARMTH v (0 .. 999)". */
    private static void blanketWarmthFrom0To999() {
        SeenCools x = Due.yard("wall 99 0;work 0 20 15 15;");
        Due.hours(x, 44);
        Due.due("blanket(0, 979, 0)", x.blanket(0, 979, 0), 0);
        Due.due("blanket(0, 980, 0)", x.blanket(0, 980, 0), NONE);
        Due.due("blanket(0, 999, 0)", x.blanket(0, 999, 0), NONE);
        Due.due("blanket(0, 999, 1)", x.blanket(0, 999, 1), 0);
        x.hour();
        Due.due("blanket(0, 999, 0)", x.blanket(0, 999, 0), 0);
        Due.due("blanket(0, 0, 0)", x.blanket(0, 0, 0), 0);
        Due.due("blanket(0, 1000, 0)", x.blanket(0, 1000, 0), BAD);
        Due.due("blanket(0, -1, 0)", x.blanket(0, -1, 0), BAD);
        Due.due("blanket(0, 0, 0) of a cold one", Due.yard("wall 0 0;").blanket(0, 0, 0), 0);
        Due.due("blanket(0, 1, 0) of a cold one", Due.yard("wall 0 0;").blanket(0, 1, 0), NONE);
    }

    /** "BEHIND n HOURS", "n (0 .. 20)". */
    private static void blanketByZeroToTwentyHours() {
        SeenCools x = Due.yard(GROWS);
        for (int n = -2; n <= 22; n++) {
            boolean may = n >= 0 && n <= 20;
            Due.due("blanket(0, 20 n, " + n + ")", x.blanket(0, Math.max(0, 20 * n), n), may ? 0 : BAD);
            Due.due("blanket(0, 20 n + 1, " + n + ")", x.blanket(0, Math.max(1, 20 * n + 1), n), may ? NONE : BAD);
        }
        // What is now no MIRROR helps.
        SeenCools now = Due.yard("wall 50 5;wall 0 0;sees 0 1 10;");
        Due.due("blanket(0, 50, 0)", now.blanket(0, 50, 0), 0);
        Due.due("blanket(0, 51, 0)", now.blanket(0, 51, 0), NONE);
        Due.due("blanket(0, 50, 20)", now.blanket(0, 50, 20), 2);
    }

    /** Of 40 that it gives each of the others gives 8 back. */
    private static SeenCools hot(int w) {
        StringBuilder text = new StringBuilder();
        for (int i = 0; i < 6; i++) {
            text.append(i == w ? "wall 50 8;" : "wall 0 0;");
        }
        for (int i = 0; i < 6; i++) {
            text.append(i == w ? "" : "sees " + w + " " + i + " 2;");
        }
        return Due.yard(text.toString());
    }

    /** "It has v at least": as much is enough, one more is not; all five others, then NONE. */
    private static void blanketIsWarmAtLeast() {
        int[] sets = {0, 2, 6, 14, 30, 62, NONE};
        int[] setsOfTheLast = {0, 1, 3, 7, 15, 31, NONE};
        for (int v = 0; v <= 51; v++) {
            int mirrors = v <= 10 ? 0 : (v - 10 + 7) / 8;
            Due.due("blanket(0, " + v + ", 1)", hot(0).blanket(0, v, 1), sets[mirrors]);
            Due.due("blanket(5, " + v + ", 1)", hot(5).blanket(5, v, 1), setsOfTheLast[mirrors]);
        }
    }

    /** "(Besides it)": no MIRROR of its own helps it; and one that it is stays. */
    private static void blanketBesidesTheWall() {
        SeenCools x = Due.yard("wall 50 5;");
        Due.due("blanket(0, 25, 1) alone", x.blanket(0, 25, 1), 0);
        Due.due("blanket(0, 26, 1) alone", x.blanket(0, 26, 1), NONE);
        SeenCools two = Due.yard("wall 50 5;wall 50 5;sees 0 1 10;");
        Due.due("blanket(0, 50, 1) of two", two.blanket(0, 50, 1), 0);
        Due.due("blanket(0, 51, 1) of two", two.blanket(0, 51, 1), 2);
        two.mirror(0, 1);
        Due.due("blanket(0, 25, 1) of a MIRROR", two.blanket(0, 25, 1), 0);
        Due.due("blanket(0, 26, 1) of a MIRROR", two.blanket(0, 26, 1), 2);
        Due.due("blanket(0, 51, 1) of a MIRROR", two.blanket(0, 51, 1), NONE);
    }

    /** "Those that are now too"; "(those that are now are not in it)". */
    private static void blanketOnTopOfMirrorsNow() {
        SeenCools x = hot(0);
        x.mirror(3, 1);
        int[] sets = {0, 2, 6, 22, 54, NONE};
        for (int mirrors = 0; mirrors < sets.length; mirrors++) {
            int v = 18 + 8 * mirrors;
            Due.due("blanket(0, " + v + ", 1) with one", x.blanket(0, v, 1), sets[mirrors]);
        }
        for (int w : new int[] {1, 2, 4, 5}) {
            x.mirror(w, 1);
        }
        Due.due("blanket(0, 50, 1) with all", x.blanket(0, 50, 1), 0);
        Due.due("blanket(0, 51, 1) with all", x.blanket(0, 51, 1), NONE);
        Due.due("count(3)", x.count(3), 5);
    }

    /** "The fewest WALLS .., of several sets the least bits." */
    private static void blanketFewestAheadOfLeastBits() {
        SeenCools x = Due.yard("wall 50 5;wall 0 0;wall 0 0;wall 0 0;wall 0 0;sees 0 1 2;sees 0 2 2;sees 0 3 4;sees 0 4 2;");
        Due.due("blanket(0, 30, 1): any", x.blanket(0, 30, 1), 2);
        Due.due("blanket(0, 35, 1): one, or two of less bits", x.blanket(0, 35, 1), 8);
        Due.due("blanket(0, 40, 1): two", x.blanket(0, 40, 1), 10);
        Due.due("blanket(0, 45, 1): three", x.blanket(0, 45, 1), 14);
        Due.due("blanket(0, 50, 1): four", x.blanket(0, 50, 1), 30);
        Due.due("blanket(0, 51, 1): more than all", x.blanket(0, 51, 1), NONE);
    }

    /** "A FURNACE f (1 .. 50 each HOUR)"; "(w = -1)". */
    private static void harmOfOneToFifty() {
        SeenCools x = Due.yard("wall 9 0;wall 9 0;");
        for (int f = -2; f <= 53; f++) {
            boolean may = f >= 1 && f <= 50;
            Due.due("harm(1, " + f + ")", x.harm(1, f), may ? 8 * f : NO);
            Due.due("harm(-1, " + f + ")", x.harm(-1, f), may ? 0 : NO);
        }
        Due.due("harm(-2, 1)", x.harm(-2, 1), NO);
        Due.due("harm(2, 1)", x.harm(2, 1), NO);
    }

    /** "BEHIND 8 HOURS, if it has so much more in each", from now on. */
    private static void harmBehindEightHours() {
        SeenCools x = Due.yard("wall 9 0;work 0 20 7 7;");
        for (int hour = 0; hour <= 9; hour++) {
            Due.due("harm(0, 3) at HOUR " + hour, x.harm(0, 3), 24);
            x.hour();
        }
        x.shut(0, 1);
        x.mirror(0, 1);
        Due.due("harm(0, 3) of a SHUT MIRROR", x.harm(0, 3), 24);
        // 10, then 10 and 5, 8, 9, 10, 10 ..: what came last is whole, of what came ahead half is given.
        Due.due("harm(0, 10) of what gives half", Due.yard("wall 0 5;").harm(0, 10), 20);
    }

    /** "How much more WARMTH all WALLS together have". */
    private static void harmOfAllWallsTogether() {
        Due.due("harm(0, 10) where another has all", Due.yard("wall 0 9;wall 0 0;sees 0 1 10;").harm(0, 10), 80);
        Due.due("harm(0, 10) where the DARK has all", Due.yard("wall 0 9;wall 0 0;").harm(0, 10), 12);
        Due.due("harm(1, 10) at what gives nothing", Due.yard("wall 0 9;wall 0 0;").harm(1, 10), 80);
    }

    /** "LEAST: the WALL where that is least, of several the least." */
    private static void harmIsLeastOfSeveralAtTheLeast() {
        Due.due("harm(-1, 5) of six alike", Due.yard("wall 9 0;".repeat(6)).harm(-1, 5), 0);
        Due.due("harm(-1, 5) of the last", Due.yard("wall 9 0;".repeat(5) + "wall 9 9;").harm(-1, 5), 5);
        Due.due("harm(-1, 5) of two", Due.yard("wall 9 0;wall 9 9;wall 9 0;wall 9 9;").harm(-1, 5), 1);
        Due.due("harm(-1, 5) of one", Due.yard("wall 9 0;").harm(-1, 5), 0);
    }

    /** "NONE: there is none"; "NO: BAD" ahead of it. */
    private static void harmOfNoWalls() {
        SeenCools x = new SeenCools();
        Due.due("harm(-1, 1) of none", x.harm(-1, 1), NONE);
        Due.due("harm(-1, 50) of none", x.harm(-1, 50), NONE);
        Due.due("harm(-1, 0) of none", x.harm(-1, 0), NO);
        Due.due("harm(-1, 51) of none", x.harm(-1, 51), NO);
        Due.due("harm(0, 1) of none", x.harm(0, 1), NO);
        Due.due("harm(-2, 1) of none", x.harm(-2, 1), NO);
    }
}
