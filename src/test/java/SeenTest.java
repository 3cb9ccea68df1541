/** Promises 19 to 21: what was SEEN, and which RATE may be another. */
final class SeenTest {
    private static final int BAD = -1, FULL = -3, NONE = -9;

    public static void main(String[] args) {
        promise19Saw();
        promise20Forget();
        promise21Holes();
        promise21FromTheBeginning();
        promise21Others();
        Due.end("SeenTest");
    }

    private static void promise19Saw() {
        SeenCools x = Due.yard("wall 90 3;wall 1 1;");
        Due.refused(x, "saw(21, 0, 0)", () -> x.saw(21, 0, 0), BAD);
        Due.refused(x, "saw(-1, 0, 0)", () -> x.saw(-1, 0, 0), BAD);
        Due.refused(x, "saw(0, 2, 0)", () -> x.saw(0, 2, 0), BAD);
        Due.refused(x, "saw(0, -1, 0)", () -> x.saw(0, -1, 0), BAD);
        Due.refused(x, "saw(0, 0, 10000)", () -> x.saw(0, 0, 10000), BAD);
        Due.refused(x, "saw(0, 0, -1)", () -> x.saw(0, 0, -1), BAD);
        Due.due("saw(0, 0, 0)", x.saw(0, 0, 0), 1);
        Due.due("saw(20, 1, 9999)", x.saw(20, 1, 9999), 2);
        for (int i = 3; i <= 8; i++) {
            Due.due("saw(0, 0, 90)", x.saw(0, 0, 90), i);
        }
        Due.refused(x, "saw(0, 0, 90) of the ninth", () -> x.saw(0, 0, 90), FULL);
        Due.refused(x, "saw(21, 0, 90) of the ninth", () -> x.saw(21, 0, 90), BAD);
        Due.due("count(4)", x.count(4), 8);
    }

    private static void promise20Forget() {
        SeenCools x = Due.yard("wall 90 3;");
        Due.due("forget() of none", x.forget(), 0);
        x.saw(0, 0, 1);
        x.saw(1, 0, 45);
        Due.due("holes(-1)", x.holes(-1), 0);
        Due.due("forget()", x.forget(), 2);
        Due.due("count(4)", x.count(4), 0);
        Due.due("holes(-1) of nothing SEEN", x.holes(-1), 65);
        Due.due("forget() again", x.forget(), 0);
        x.saw(1, 0, 45);
        Due.due("holes(0)", x.holes(0), 5);
    }

    private static void promise21Holes() {
        SeenCools x = Due.yard("wall 90 3;");
        x.saw(1, 0, 63);
        Due.due("holes(-1) as told", x.holes(-1), 64);
        Due.due("holes(0) as told", x.holes(0), NONE);
        x.forget();
        x.saw(1, 0, 45);
        Due.due("holes(-1) of a hole", x.holes(-1), 1);
        Due.due("holes(0) of a hole", x.holes(0), 5);
        x.saw(2, 0, 22);
        Due.due("holes(-1) of what can't be", x.holes(-1), 0);
        Due.due("holes(0) of what can't be", x.holes(0), NONE);
        Due.refused(x, "holes(1)", () -> x.holes(1), BAD);
        Due.refused(x, "holes(-2)", () -> x.holes(-2), BAD);
        Due.changesNothing(x, "holes(-1)", () -> x.holes(-1));
        SeenCools any = Due.yard("wall 1 0;wall 1 3;");
        any.saw(20, 0, 1);
        Due.due("holes(0), not the told one", any.holes(0), 1);
        Due.due("holes(1), the least", any.holes(1), 0);
        Due.due("holes(-1)", any.holes(-1), 67);
        SeenCools least = Due.yard("wall 9 9;");
        least.saw(1, 0, 5);
        Due.due("holes(0), 9 by 5 and no other", least.holes(0), 5);
        SeenCools none = new SeenCools();
        Due.due("holes(-1) of none", none.holes(-1), 64);
        Due.refused(none, "holes(0) of none", () -> none.holes(0), BAD);
    }

    /** As told, all OPEN, no MIRRORS, whatever is NOW. */
    private static void promise21FromTheBeginning() {
        SeenCools x = Due.yard("wall 50 5;wall 30 9;sees 0 1 4;work 1 7 1 0;");
        x.mirror(1, 1);
        x.shut(0, 1);
        Due.hours(x, 5);
        x.saw(0, 0, 50);
        x.saw(1, 0, 35);
        x.saw(1, 1, 20);
        x.saw(2, 0, 25);
        x.saw(2, 1, 8);
        Due.due("holes(-1)", x.holes(-1), 64);
        Due.due("wall(0, 1)", x.wall(0, 1), 5);
        Due.due("behind(0, 1)", x.behind(0, 1), x.wall(1, 0));
    }

    /** Another one's RATE may tell what a WALL had. */
    private static void promise21Others() {
        SeenCools x = Due.yard("wall 90 3;wall 10 0;wall 0 9;sees 0 1 5;");
        x.saw(1, 1, 55);
        Due.due("holes(-1)", x.holes(-1), 0);
        x.forget();
        x.saw(1, 1, 50);
        Due.due("holes(-1)", x.holes(-1), 1);
        Due.due("holes(0)", x.holes(0), 9);
        Due.due("holes(1)", x.holes(1), NONE);
        Due.due("holes(2)", x.holes(2), NONE);
        x.forget();
        x.saw(1, 1, 22);
        Due.due("holes(-1)", x.holes(-1), 2);
        Due.due("holes(1)", x.holes(1), 1);
    }
}
