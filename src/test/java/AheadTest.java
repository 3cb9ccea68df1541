/** Promises 12 to 18: what comes from NOW on, and that asking changes nothing. */
final class AheadTest {
    private static final int BAD = -1, NONE = -9, NO = -1000000;

    public static void main(String[] args) {
        promise12Behind();
        promise13First();
        promise13FiftyHours();
        promise14Rest();
        promise14TwoHundredHours();
        promise15Coolest();
        promise16Busy();
        promise16SixteenHours();
        promise17Blanket();
        promise17FewestAheadOfLeast();
        promise18Harm();
        Due.end("AheadTest");
    }

    private static void promise12Behind() {
        SeenCools x = Due.yard("wall 50 5;wall 30 9;sees 0 1 4;work 1 7 1 0;");
        int[][] due = {{50, 35, 25}, {30, 20, 8}};
        for (int w = 0; w < 2; w++) {
            for (int n = 0; n < 3; n++) {
                Due.due("behind(" + n + ", " + w + ")", x.behind(n, w), due[w][n]);
            }
        }
        SeenCools y = Due.yard("wall 50 0;work 0 20 15 15;");
        Due.due("behind(50, 0)", y.behind(50, 0), 1050);
        y.hour();
        Due.due("behind(50, 0) an HOUR on", y.behind(50, 0), 1070);
        SeenCools late = Due.yard("wall 0 0;work 0 20 8 0;");
        Due.hours(late, 3);
        Due.due("behind(1, 0) at HOUR 3", late.behind(1, 0), 20);
        Due.due("behind(8, 0) at HOUR 3", late.behind(8, 0), 20);
        Due.due("behind(9, 0) at HOUR 3", late.behind(9, 0), 40);
        x.shut(1, 1);
        Due.due("behind(1, 0) at a SHUT one", x.behind(1, 0), 25);
        x.mirror(1, 1);
        Due.due("behind(1, 0) at a MIRROR", x.behind(1, 0), 35);
        Due.changesNothing(x, "behind(50, 1)", () -> x.behind(50, 1));
        Due.refused(x, "behind(51, 0)", () -> x.behind(51, 0), BAD);
        Due.refused(x, "behind(-1, 0)", () -> x.behind(-1, 0), BAD);
        Due.refused(x, "behind(0, 2)", () -> x.behind(0, 2), BAD);
        Due.refused(x, "behind(0, -1)", () -> x.behind(0, -1), BAD);
    }

    private static void first(String text, int hours, int w) {
        SeenCools x = Due.yard(text);
        Due.due("first(0) of " + text, x.first(0), hours);
        Due.due("first(1) of " + text, x.first(1), w);
    }

    private static void promise13First() {
        first("", NONE, NONE);
        first("wall 99 0;", NONE, NONE);
        first("wall 99 0;limit 8;", 0, 0);
        first("wall 0 0;work 0 20 15 15;", 5, 0);
        first("wall 0 0;work 0 11 15 15;", 10, 0);
        first("wall 0 0;wall 9 0;wall 9 0;work 2 1 4 0;work 1 1 4 0;limit 0;", 3, 1);
        first("wall 5 0;wall 9 0;work 0 1 15 15;work 1 1 2 0;limit 0;", 2, 1);
        SeenCools x = Due.yard("wall 0 0;work 0 20 15 15;");
        Due.hours(x, 4);
        Due.due("first(0) at HOUR 4", x.first(0), 1);
        Due.changesNothing(x, "first(0)", () -> x.first(0));
        Due.refused(x, "first(2)", () -> x.first(2), BAD);
        Due.refused(x, "first(-1)", () -> x.first(-1), BAD);
        SeenCools none = new SeenCools();
        Due.refused(none, "first(2) of none", () -> none.first(2), BAD);
    }

    private static void promise13FiftyHours() {
        first("wall 0 0;work 0 20 15 15;limit 99;", 50, 0);
        SeenCools x = Due.yard("wall 0 0;work 0 19 15 15;limit 99;");
        Due.hours(x, 2);
        Due.due("first(0) one HOUR too far", x.first(0), NONE);
        Due.due("first(1) one HOUR too far", x.first(1), NONE);
        x.hour();
        Due.due("first(0)", x.first(0), 50);
    }

    private static void promise14Rest() {
        rest("", 0);
        rest("wall 99 0;", 0);
        rest("wall 10 5;", 4);
        rest("wall 0 0;work 0 1 15 15;", NONE);
        // What it gives makes up for its WORKS, once it has been through them.
        rest("wall 0 9;work 0 20 1 0;", 3);
        SeenCools x = Due.yard("wall 10 5;");
        Due.hours(x, 3);
        Due.due("rest() at HOUR 3", x.rest(), 1);
        Due.changesNothing(x, "rest()", x::rest);
        x.hour();
        Due.due("rest() at HOUR 4", x.rest(), 0);
        x.shut(0, 1);
        Due.due("rest() of a SHUT one", x.rest(), 0);
    }

    private static void rest(String text, int due) {
        Due.due("rest() of " + text, Due.yard(text).rest(), due);
    }

    private static void promise14TwoHundredHours() {
        SeenCools x = Due.yard("wall 39 3;wall 9 3;sees 1 0 9;work 0 13 10 7;");
        for (int n = 208; n > 200; n--) {
            Due.due("rest() " + n + " HOURS ahead", x.rest(), NONE);
            x.hour();
        }
        for (int n = 200; n > 190; n--) {
            Due.due("rest() " + n + " HOURS ahead", x.rest(), n);
            x.hour();
        }
    }

    private static void promise15Coolest() {
        SeenCools x = Due.yard("wall 40 5;wall 10 5;sees 0 1 5;");
        coolest(x, 0, 40, 0);
        coolest(x, 1, 20, 2);
        x.shut(0, 1);
        coolest(x, 1, 20, 2);
        x.mirror(1, 1);
        coolest(x, 1, 30, 2);
        Due.changesNothing(x, "coolest(20, 1)", () -> x.coolest(20, 1));
        Due.refused(x, "coolest(21, 0)", () -> x.coolest(21, 0), BAD);
        Due.refused(x, "coolest(-1, 0)", () -> x.coolest(-1, 0), BAD);
        Due.refused(x, "coolest(0, 2)", () -> x.coolest(0, 2), BAD);
        Due.refused(x, "coolest(0, -1)", () -> x.coolest(0, -1), BAD);
        SeenCools none = new SeenCools();
        coolest(none, 20, NONE, NONE);
        Due.refused(none, "coolest(21, 0) of none", () -> none.coolest(21, 0), BAD);
        coolest(Due.yard("wall 0 0;wall 0 0;"), 20, 0, 0);
        coolest(Due.yard("wall 0 0;work 0 20 15 15;"), 20, 400, 0);
    }

    private static void coolest(SeenCools x, int n, int warm, int set) {
        Due.due("coolest(" + n + ", 0)", x.coolest(n, 0), warm);
        Due.due("coolest(" + n + ", 1)", x.coolest(n, 1), set);
    }

    private static void promise16Busy() {
        SeenCools x = Due.yard("wall 50 0;wall 0 0;work 0 20 0 0;");
        busy(x, 0, 1, 1);
        busy(x, 1, 8, 255);
        Due.changesNothing(x, "busy(0, 1)", () -> x.busy(0, 1));
        Due.refused(x, "busy(2, 0)", () -> x.busy(2, 0), BAD);
        Due.refused(x, "busy(-1, 0)", () -> x.busy(-1, 0), BAD);
        Due.refused(x, "busy(0, 2)", () -> x.busy(0, 2), BAD);
        Due.refused(x, "busy(0, -1)", () -> x.busy(0, -1), BAD);
        // Too warm NOW does not count; what is told of its HOURS does not, either.
        busy(Due.yard("wall 99 9;limit 5;"), 0, 8, 255);
        busy(Due.yard("wall 90 0;work 0 20 15 15;"), 0, 0, 0);
        busy(Due.yard("wall 99 0;limit 5;"), 0, NONE, NONE);
        busy(Due.yard("wall 0 0;work 0 10 15 15;limit 5;"), 0, 2, 3);
        // 19 is 10 an HOUR later: no work in the first one; 10, 15, 18, 19, so that three are borne in a row.
        busy(Due.yard("wall 19 5;work 0 10 0 0;limit 1;"), 0, 6, 238);
    }

    private static void busy(SeenCools x, int w, int many, int bits) {
        Due.due("busy(" + w + ", 0)", x.busy(w, 0), many);
        Due.due("busy(" + w + ", 1)", x.busy(w, 1), bits);
    }

    private static void promise16SixteenHours() {
        busy(Due.yard("wall 0 0;wall 83 0;work 1 1 15 15;"), 0, 8, 255);
        busy(Due.yard("wall 0 0;wall 84 0;work 1 1 15 15;"), 0, NONE, NONE);
        SeenCools shut = Due.yard("wall 50 9;work 0 20 0 0;");
        busy(shut, 0, 8, 255);
        shut.shut(0, 1);
        busy(shut, 0, 1, 1);
    }

    private static void promise17Blanket() {
        SeenCools x = Due.yard("wall 50 5;wall 0 0;wall 0 0;sees 0 1 5;sees 0 2 5;");
        int[][] due = {{25, 0}, {26, 2}, {37, 2}, {38, 6}, {49, 6}, {50, NONE}};
        for (int[] one : due) {
            Due.due("blanket(0, " + one[0] + ", 1)", x.blanket(0, one[0], 1), one[1]);
        }
        Due.due("blanket(0, 50, 0)", x.blanket(0, 50, 0), 0);
        Due.due("blanket(0, 51, 0)", x.blanket(0, 51, 0), NONE);
        Due.due("blanket(0, 0, 20)", x.blanket(0, 0, 20), 0);
        Due.due("blanket(0, 999, 20)", x.blanket(0, 999, 20), NONE);
        x.mirror(2, 1);
        Due.due("blanket(0, 37, 1) with a MIRROR", x.blanket(0, 37, 1), 0);
        Due.due("blanket(0, 38, 1) with a MIRROR", x.blanket(0, 38, 1), 2);
        Due.due("blanket(0, 50, 1) with a MIRROR", x.blanket(0, 50, 1), NONE);
        x.mirror(1, 1);
        Due.due("blanket(0, 49, 1) with all", x.blanket(0, 49, 1), 0);
        Due.changesNothing(x, "blanket(1, 9, 9)", () -> x.blanket(1, 9, 9));
        Due.refused(x, "blanket(3, 0, 0)", () -> x.blanket(3, 0, 0), BAD);
        Due.refused(x, "blanket(-1, 0, 0)", () -> x.blanket(-1, 0, 0), BAD);
        Due.refused(x, "blanket(0, 1000, 0)", () -> x.blanket(0, 1000, 0), BAD);
        Due.refused(x, "blanket(0, -1, 0)", () -> x.blanket(0, -1, 0), BAD);
        Due.refused(x, "blanket(0, 0, 21)", () -> x.blanket(0, 0, 21), BAD);
        Due.refused(x, "blanket(0, 0, -1)", () -> x.blanket(0, 0, -1), BAD);
        SeenCools shut = Due.yard("wall 50 5;wall 0 0;sees 0 1 5;");
        shut.shut(0, 1);
        Due.due("blanket(0, 50, 20) of a SHUT one", shut.blanket(0, 50, 20), 0);
    }

    private static void promise17FewestAheadOfLeast() {
        SeenCools x = Due.yard("wall 50 5;wall 0 0;wall 0 0;wall 0 0;sees 0 1 2;sees 0 2 2;sees 0 3 5;");
        Due.due("blanket(0, 30, 1)", x.blanket(0, 30, 1), 2);
        Due.due("blanket(0, 33, 1)", x.blanket(0, 33, 1), 8);
        Due.due("blanket(0, 38, 1)", x.blanket(0, 38, 1), 10);
        Due.due("blanket(0, 43, 1)", x.blanket(0, 43, 1), 14);
    }

    private static void promise18Harm() {
        SeenCools x = Due.yard("wall 0 0;wall 0 9;wall 0 9;");
        Due.due("harm(0, 5)", x.harm(0, 5), 40);
        Due.due("harm(1, 5)", x.harm(1, 5), 6);
        Due.due("harm(-1, 5)", x.harm(-1, 5), 1);
        Due.due("harm(0, 50)", x.harm(0, 50), 400);
        Due.changesNothing(x, "harm(-1, 50)", () -> x.harm(-1, 50));
        x.shut(1, 1);
        Due.due("harm(1, 5) of a SHUT one", x.harm(1, 5), 40);
        Due.due("harm(-1, 5)", x.harm(-1, 5), 2);
        x.shut(2, 1);
        Due.due("harm(-1, 5) where all is one", x.harm(-1, 5), 0);
        Due.refused(x, "harm(3, 1)", () -> x.harm(3, 1), NO);
        Due.refused(x, "harm(-2, 1)", () -> x.harm(-2, 1), NO);
        Due.refused(x, "harm(0, 0)", () -> x.harm(0, 0), NO);
        Due.refused(x, "harm(0, 51)", () -> x.harm(0, 51), NO);
        Due.refused(x, "harm(-1, 51)", () -> x.harm(-1, 51), NO);
        SeenCools none = new SeenCools();
        Due.due("harm(-1, 50) of none", none.harm(-1, 50), NONE);
        Due.refused(none, "harm(-1, 0) of none", () -> none.harm(-1, 0), NO);
        Due.refused(none, "harm(0, 1) of none", () -> none.harm(0, 1), NO);
        // A furnace is no WORK: what others have of it counts, and what is there does not.
        SeenCools seen = Due.yard("wall 0 9;wall 99 0;sees 0 1 10;work 0 20 15 15;");
        int with = seen.harm(0, 10);
        Due.due("harm(0, 10) of what is seen", with, 80);
    }
}
