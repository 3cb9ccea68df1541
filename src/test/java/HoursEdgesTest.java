/** A new object, WALLS, HOURS, what is UNDONE and NOW at their edges (promises 1, 5 to 11), a test for each sentence. */
final class HoursEdgesTest {
    private static final int BAD = -1, STATE = -2, NONE = -9, NO = -1000000;
    private static final String SIX = "wall 10 0;wall 10 0;wall 10 0;wall 10 0;wall 10 0;wall 10 0;";

    public static void main(String[] args) {
        newHasNoWalls();
        newIsAsReadFromNothing();
        wallsAreTheFirstOnes();
        darkIsWhatIsLeftOfTen();
        worksAreNoneIfNotTold();
        allAreOpenAtFirst();
        seesNoneAndAll();
        givesWarmthTimesRateByTenCut();
        partsByTenAreCut();
        eachPartIsCutAlone();
        shutOnesGiveNothing();
        shutOnesHaveNothing();
        mirrorsGiveBackShutOrNot();
        mirrorsGiveAsOthersDo();
        eachOfTwoShutOrMirrors();
        darkHasWhatNobodyHas();
        givenIsAddedUp();
        worksByTheNumberAhead();
        worksComeToShutOnes();
        allAtOnce();
        lastHourIs999();
        shutOneToSix();
        mirrorOneToSix();
        isIsZeroOrOne();
        undoneAreTenAtMost();
        undoneOfEachSort();
        undoneAloneNoMore();
        undoneNotWhatWasRefused();
        tooWarmIsAboveTheLimit();
        warmestIsTheLeastOfSeveral();
        nowOfNoWalls();
        Due.end("HoursEdgesTest");
    }

    /** "As told; no WALLS": each WALL that is asked for is none. */
    private static void newHasNoWalls() {
        SeenCools x = new SeenCools();
        for (int w = -1; w <= 6; w++) {
            Due.due("wall(" + w + ", 0) of none", x.wall(w, 0), BAD);
            Due.due("sees(" + w + ", 0) of none", x.sees(w, 0), BAD);
            Due.due("shut(" + w + ", 1) of none", x.shut(w, 1), BAD);
            Due.due("mirror(" + w + ", 1) of none", x.mirror(w, 1), BAD);
            Due.due("behind(0, " + w + ") of none", x.behind(0, w), BAD);
            Due.due("busy(" + w + ", 0) of none", x.busy(w, 0), BAD);
            Due.due("blanket(" + w + ", 0, 0) of none", x.blanket(w, 0, 0), BAD);
            Due.due("harm(" + w + ", 1) of none", x.harm(w, 1), w == -1 ? NONE : NO);
            Due.due("saw(0, " + w + ", 0) of none", x.saw(0, w, 0), BAD);
            Due.due("holes(" + w + ") of none", x.holes(w), w == -1 ? 64 : BAD);
            Due.due("mark(0, " + w + ") of none", x.mark(0, w), NO);
        }
        Due.due("count(0) of none", x.count(0), 0);
        Due.due("trace() of none", x.trace(), 0);
    }

    /** A new object is as one that has read a text of no ITEMS. */
    private static void newIsAsReadFromNothing() {
        SeenCools read = new SeenCools();
        read.walls();
        Due.due("all of what has read nothing", Shown.all(read), Shown.all(new SeenCools()));
    }

    /** A WALL is one of those that are told: the last one is, the next one isn't. */
    private static void wallsAreTheFirstOnes() {
        for (int number = 1; number <= 6; number++) {
            SeenCools x = Due.yard("wall 7 3;".repeat(number));
            Due.due("the last of " + number, x.wall(number - 1, 0), 7);
            Due.due("one beyond " + number, x.wall(number, 0), BAD);
            Due.due("one ahead of " + number, x.wall(-1, 0), BAD);
            Due.due("sees of one beyond " + number, x.sees(0, number), BAD);
            Due.due("behind of the last of " + number, x.behind(0, number - 1), 7);
            Due.due("behind of one beyond " + number, x.behind(0, number), BAD);
        }
    }

    /** "What is left of 10 is the DARK": all, some, none. */
    private static void darkIsWhatIsLeftOfTen() {
        Due.due("wall(0, 4) alone", Due.yard("wall 1 1;").wall(0, 4), 10);
        for (int n = 1; n <= 10; n++) {
            SeenCools x = Due.yard("wall 1 1;wall 1 1;wall 1 1;sees 1 0 " + n + ";");
            Due.due("wall(0, 4) less " + n, x.wall(0, 4), 10 - n);
            Due.due("wall(1, 4) less " + n, x.wall(1, 4), 10 - n);
            Due.due("wall(2, 4)", x.wall(2, 4), 10);
        }
        SeenCools five = Due.yard(SIX + "sees 0 1 2;sees 0 2 2;sees 0 3 2;sees 0 4 2;sees 0 5 2;");
        Due.due("wall(0, 4) of five times 2", five.wall(0, 4), 0);
        Due.due("wall(5, 4) of once 2", five.wall(5, 4), 8);
    }

    /** "None if it is not told." */
    private static void worksAreNoneIfNotTold() {
        SeenCools x = Due.yard("wall 1 0;wall 1 0;work 1 20 15 15;");
        Due.due("wall(0, 2)", x.wall(0, 2), 0);
        Due.due("wall(0, 3)", x.wall(0, 3), 0);
        Due.hours(x, 8);
        Due.due("WARMTHS", Due.warmths(x), "1 161");
    }

    /** "OPEN (at first) .., a MIRROR or not (at first)"; "HOUR 0 at first". */
    private static void allAreOpenAtFirst() {
        SeenCools x = Due.yard(SIX);
        for (int w = 0; w < 6; w++) {
            Due.due("wall(" + w + ", 5) at first", x.wall(w, 5), 0);
            Due.due("wall(" + w + ", 6) at first", x.wall(w, 6), 0);
        }
        Due.due("now(0) at first", x.now(0), 0);
        Due.due("now(2) at first", x.now(2), 0);
        Due.due("count(5) at first", x.count(5), 0);
    }

    /** "Parts by which two WALLS SEE one another": 0 if they don't, 10 if nothing else. */
    private static void seesNoneAndAll() {
        SeenCools x = Due.yard(SIX + "sees 0 5 10;sees 1 4 1;");
        for (int a = 0; a < 6; a++) {
            for (int b = 0; b < 6; b++) {
                int due = a == b ? BAD : a + b != 5 ? 0 : a == 0 || a == 5 ? 10 : a == 1 || a == 4 ? 1 : 0;
                Due.due("sees(" + a + ", " + b + ")", x.sees(a, b), due);
            }
        }
    }

    /** "Its WARMTH times RATE by 10 (cut)": of each WARMTH and RATE. */
    private static void givesWarmthTimesRateByTenCut() {
        for (int warmth = 0; warmth <= 99; warmth++) {
            for (int rate = 0; rate <= 9; rate++) {
                String text = "wall " + warmth + " " + rate + ";";
                SeenCools x = Due.yard(text);
                Due.due("hour() of " + text, x.hour(), warmth * rate / 10);
                Due.due("wall(0, 0) of " + text, x.wall(0, 0), warmth - warmth * rate / 10);
            }
        }
    }

    /** "Has its parts by 10 (cut)": what is cut is the DARK's. */
    private static void partsByTenAreCut() {
        for (int n = 1; n <= 10; n++) {
            for (int gives = 0; gives <= 89; gives++) {
                // The least WARMTH of which nine tenths are so much.
                int warmth = (gives * 10 + 8) / 9;
                String text = "wall " + warmth + " 9;wall 3 0;sees 0 1 " + n + ";";
                SeenCools x = Due.yard(text);
                Due.due("hour() of " + text, x.hour(), gives - gives * n / 10);
                Due.due("WARMTHS of " + text, Due.warmths(x), warmth - gives + " " + (3 + gives * n / 10));
            }
        }
    }

    /** Each WALL's parts are cut for themselves: 9 by halves is 4 and 4, 1 by tenths is nothing to all. */
    private static void eachPartIsCutAlone() {
        SeenCools halves = Due.yard("wall 10 9;wall 0 0;wall 0 0;sees 0 1 5;sees 0 2 5;");
        Due.due("hour() of 9 by halves", halves.hour(), 1);
        Due.due("WARMTHS", Due.warmths(halves), "1 4 4");
        SeenCools fifths = Due.yard("wall 10 4;" + "wall 0 0;".repeat(5)
            + "sees 0 1 2;sees 0 2 2;sees 0 3 2;sees 0 4 2;sees 0 5 2;");
        Due.due("hour() of 4 by fifths", fifths.hour(), 4);
        Due.due("WARMTHS", Due.warmths(fifths), "6 0 0 0 0 0");
    }

    /** "SHUT ones nothing." */
    private static void shutOnesGiveNothing() {
        SeenCools x = Due.yard("wall 99 9;wall 0 0;sees 0 1 10;");
        x.shut(0, 1);
        Due.due("hour() of a SHUT one", x.hour(), 0);
        Due.due("WARMTHS", Due.warmths(x), "99 0");
        x.mirror(0, 1);
        Due.due("hour() of a SHUT MIRROR", x.hour(), 0);
        Due.due("WARMTHS", Due.warmths(x), "99 0");
        x.shut(0, 0);
        Due.due("hour() of an OPENED one", x.hour(), 0);
        Due.due("WARMTHS", Due.warmths(x), "10 89");
    }

    /** "Any other one has them, if it is OPEN": if not, the DARK has them. */
    private static void shutOnesHaveNothing() {
        SeenCools x = Due.yard("wall 50 2;wall 7 0;wall 8 0;sees 0 1 5;sees 0 2 4;");
        x.shut(1, 1);
        Due.due("hour() at a SHUT one", x.hour(), 6);
        Due.due("WARMTHS", Due.warmths(x), "40 7 12");
    }

    /** "A MIRROR (SHUT or not) gives them back." */
    private static void mirrorsGiveBackShutOrNot() {
        for (int shut = 0; shut <= 1; shut++) {
            SeenCools x = Due.yard("wall 50 2;wall 7 0;wall 8 0;sees 0 1 5;sees 0 2 4;");
            x.mirror(1, 1);
            if (shut == 1) {
                x.shut(1, 1);
            }
            Due.due("hour() at a MIRROR, SHUT: " + shut, x.hour(), 1);
            Due.due("WARMTHS", Due.warmths(x), "45 7 12");
        }
    }

    /** "Each OPEN WALL GIVES", a MIRROR too; of two MIRRORS each gives the other's back. */
    private static void mirrorsGiveAsOthersDo() {
        SeenCools one = Due.yard("wall 50 2;wall 7 0;sees 0 1 5;");
        one.mirror(0, 1);
        Due.due("hour() of a MIRROR", one.hour(), 5);
        Due.due("WARMTHS", Due.warmths(one), "40 12");
        SeenCools both = Due.yard("wall 50 2;wall 20 5;sees 0 1 10;");
        both.mirror(0, 1);
        both.mirror(1, 1);
        Due.due("hour() of two MIRRORS", both.hour(), 0);
        Due.due("WARMTHS", Due.warmths(both), "50 20");
    }

    /** All 16 ways: a SHUT one gives nothing, be it a MIRROR or not; a MIRROR gives back, be it SHUT or not. */
    private static void eachOfTwoShutOrMirrors() {
        for (int way = 0; way < 16; way++) {
            int shut = way & 3;
            int mirrors = way >> 2;
            SeenCools x = Due.yard("wall 50 4;wall 30 9;sees 0 1 6;");
            for (int w = 0; w < 2; w++) {
                x.shut(w, shut >> w & 1);
                x.mirror(w, mirrors >> w & 1);
            }
            // Of 20 the other one's parts are 12; of 27 they are 16.
            int[] gives = {(shut & 1) == 1 ? 0 : 20, (shut & 2) == 2 ? 0 : 27};
            int[] parts = {(shut & 1) == 1 ? 0 : 12, (shut & 2) == 2 ? 0 : 16};
            int[] warmth = {50 - gives[0], 30 - gives[1]};
            int dark = gives[0] + gives[1];
            for (int w = 0; w < 2; w++) {
                int other = 1 - w;
                if ((mirrors >> other & 1) == 1) {
                    warmth[w] += parts[w];
                    dark -= parts[w];
                } else if ((shut >> other & 1) == 0) {
                    warmth[other] += parts[w];
                    dark -= parts[w];
                }
            }
            String when = " with SHUT " + shut + ", MIRRORS " + mirrors;
            Due.due("hour()" + when, x.hour(), dark);
            Due.due("WARMTHS" + when, Due.warmths(x), warmth[0] + " " + warmth[1]);
            Due.due("now(2)" + when, x.now(2), dark);
        }
    }

    /** "What nobody has (or gets back) the DARK has": what a MIRROR's parts are cut by, too. */
    private static void darkHasWhatNobodyHas() {
        SeenCools x = Due.yard("wall 10 9;wall 0 0;wall 0 0;sees 0 1 5;sees 0 2 5;");
        x.mirror(1, 1);
        Due.due("hour() of 9, 4 to a MIRROR, 4 to another", x.hour(), 1);
        Due.due("WARMTHS", Due.warmths(x), "5 0 4");
        SeenCools cut = Due.yard("wall 10 1;wall 0 0;sees 0 1 9;");
        cut.mirror(1, 1);
        Due.due("hour() of 1, nine tenths to a MIRROR", cut.hour(), 1);
        Due.due("WARMTHS", Due.warmths(cut), "9 0");
    }

    /** "(GIVEN to the DARK: added up)": of all WALLS, of all HOURS; 0 at first. */
    private static void givenIsAddedUp() {
        SeenCools x = Due.yard("wall 40 5;wall 20 5;");
        int[] due = {30, 45, 52, 55, 57, 58, 58};
        int before = 0;
        for (int given : due) {
            Due.due("hour()", x.hour(), given - before);
            Due.due("now(2)", x.now(2), given);
            before = given;
        }
    }

    /** "WORKS come (those of the number that the HOUR has ahead of going by ..)", "left over by 8". */
    private static void worksByTheNumberAhead() {
        for (int bit = 0; bit < 8; bit++) {
            int hours = 1 << bit;
            SeenCools x = Due.yard("wall 0 0;work 0 1 " + hours % 16 + " " + hours / 16 + ";");
            for (int hour = 0; hour < 26; hour++) {
                int due = hour <= bit ? 0 : 1 + (hour - 1 - bit) / 8;
                Due.due("WARMTH at HOUR " + hour + " of bit " + bit, x.wall(0, 0), due);
                x.hour();
            }
        }
    }

    /** "WORKS come" to all that have them, SHUT ones and MIRRORS too. */
    private static void worksComeToShutOnes() {
        SeenCools x = Due.yard("wall 0 9;wall 0 9;wall 0 9;work 0 20 1 0;work 1 20 1 0;work 2 20 1 0;");
        x.shut(0, 1);
        x.mirror(1, 1);
        x.shut(2, 1);
        x.mirror(2, 1);
        Due.due("hour()", x.hour(), 0);
        Due.due("WARMTHS", Due.warmths(x), "20 20 20");
    }

    /** "All at once": what comes in an HOUR is given in the next one. */
    private static void allAtOnce() {
        SeenCools x = Due.yard("wall 50 8;wall 0 8;wall 0 8;sees 0 1 10;work 2 10 1 0;");
        Due.due("hour()", x.hour(), 0);
        Due.due("WARMTHS", Due.warmths(x), "10 40 10");
        Due.due("hour()", x.hour(), 8);
        Due.due("WARMTHS", Due.warmths(x), "34 16 2");
        SeenCools back = Due.yard("wall 0 8;wall 50 8;sees 0 1 10;");
        back.hour();
        Due.due("WARMTHS", Due.warmths(back), "40 10");
    }

    /** "(999 at most HOURS.)" No run of 512 calls comes so far: what is answered here is free. */
    private static void lastHourIs999() {
        SeenCools x = Due.yard("wall 9 0;work 0 1 15 15;");
        Due.hours(x, 998);
        Due.due("hour() of the last", x.hour(), 0);
        Due.due("now(0)", x.now(0), 999);
        Due.due("hour() beyond it", x.hour(), STATE);
        Due.due("now(0)", x.now(0), 999);
        Due.due("wall(0, 0)", x.wall(0, 0), 9 + 999);
    }

    /** "How many are SHUT": 1 to 6 and back to 0; "STATE: it is so." */
    private static void shutOneToSix() {
        SeenCools x = Due.yard(SIX);
        for (int w = 0; w < 6; w++) {
            Due.due("shut(" + w + ", 0) of an OPEN one", x.shut(w, 0), STATE);
            Due.due("shut(" + w + ", 1)", x.shut(w, 1), w + 1);
            Due.due("shut(" + w + ", 1) of a SHUT one", x.shut(w, 1), STATE);
            Due.due("count(2)", x.count(2), w + 1);
        }
        for (int w = 0; w < 6; w++) {
            Due.due("shut(" + w + ", 0)", x.shut(w, 0), 5 - w);
            Due.due("shut(" + w + ", 0) of an OPEN one", x.shut(w, 0), STATE);
        }
    }

    /** "How many there are": 1 to 6 and back to 0; "STATE: it is so." */
    private static void mirrorOneToSix() {
        SeenCools x = Due.yard(SIX);
        for (int w = 0; w < 6; w++) {
            Due.due("mirror(" + w + ", 0) of none", x.mirror(w, 0), STATE);
            Due.due("mirror(" + w + ", 1)", x.mirror(w, 1), w + 1);
            Due.due("mirror(" + w + ", 1) of one", x.mirror(w, 1), STATE);
            Due.due("count(3)", x.count(3), w + 1);
        }
        for (int w = 0; w < 6; w++) {
            Due.due("mirror(" + w + ", 0)", x.mirror(w, 0), 5 - w);
            Due.due("mirror(" + w + ", 0) of none", x.mirror(w, 0), STATE);
        }
    }

    /** "(is = 1) .. (0)": no other number, whether it is SHUT or not. */
    private static void isIsZeroOrOne() {
        for (int was = 0; was <= 1; was++) {
            for (int is : new int[] {-1, 2, 3, 256, 257, Integer.MIN_VALUE, Integer.MAX_VALUE}) {
                SeenCools x = Due.yard("wall 1 1;");
                x.shut(0, was);
                x.mirror(0, was);
                Due.due("shut(0, " + is + ")", x.shut(0, is), BAD);
                Due.due("mirror(0, " + is + ")", x.mirror(0, is), BAD);
                Due.due("wall(0, 5)", x.wall(0, 5), was);
                Due.due("wall(0, 6)", x.wall(0, 6), was);
            }
        }
    }

    /** "10 are known, older ones are lost": of 9, 10, 11 and more. */
    private static void undoneAreTenAtMost() {
        for (int many : new int[] {0, 1, 9, 10, 11, 12, 20, 21}) {
            SeenCools x = Due.yard(SIX);
            for (int i = 0; i < many; i++) {
                turn(x, i);
            }
            int known = Math.min(10, many);
            Due.due("count(5) of " + many, x.count(5), known);
            for (int left = known - 1; left >= 0; left--) {
                Due.due("undo() of " + many, x.undo(), left);
                Due.due("count(5)", x.count(5), left);
            }
            Due.due("undo() of what is lost", x.undo(), STATE);
            SeenCools due = Due.yard(SIX);
            for (int i = 0; i < many - known; i++) {
                turn(due, i);
            }
            Due.due("SHUT and MIRRORS when all is UNDONE of " + many, sets(x), sets(due));
        }
    }

    /** The i-th change of a row in which no two that follow one another are of one WALL. */
    private static void turn(SeenCools x, int i) {
        int w = i * 5 % 6;
        int answer = i % 3 == 2 ? x.mirror(w, 1 - x.wall(w, 6)) : x.shut(w, 1 - x.wall(w, 5));
        Due.due("a change of " + w + " is taken: " + answer, answer >= 0 ? 1 : 0, 1);
    }

    private static String sets(SeenCools x) {
        StringBuilder sets = new StringBuilder();
        for (int w = 0; w < 6; w++) {
            sets.append(x.wall(w, 5)).append(x.wall(w, 6)).append(' ');
        }
        return sets.toString();
    }

    /** "The latest that was SHUT, OPENED, made a MIRROR or none." */
    private static void undoneOfEachSort() {
        SeenCools x = Due.yard(SIX);
        x.shut(3, 1);
        x.mirror(4, 1);
        x.shut(3, 0);
        x.mirror(4, 0);
        Due.due("undo() of made none", x.undo(), 3);
        Due.due("wall(4, 6)", x.wall(4, 6), 1);
        Due.due("undo() of OPENED", x.undo(), 2);
        Due.due("wall(3, 5)", x.wall(3, 5), 1);
        Due.due("undo() of made a MIRROR", x.undo(), 1);
        Due.due("wall(4, 6)", x.wall(4, 6), 0);
        Due.due("undo() of SHUT", x.undo(), 0);
        Due.due("wall(3, 5)", x.wall(3, 5), 0);
    }

    /** "(That alone: WARMTHS, the HOUR stay ..)": GIVEN too; and what is UNDONE is not to be UNDONE again. */
    private static void undoneAloneNoMore() {
        SeenCools x = Due.yard("wall 80 5;wall 60 5;sees 0 1 5;work 1 9 15 15;");
        x.shut(0, 1);
        x.hour();
        x.mirror(1, 1);
        Due.hours(x, 2);
        String now = Due.warmths(x) + " " + x.now(0) + " " + x.now(1) + " " + x.now(2);
        Due.due("undo()", x.undo(), 1);
        Due.due("undo()", x.undo(), 0);
        Due.due("undo() of none", x.undo(), STATE);
        Due.due("NOW", Due.warmths(x) + " " + x.now(0) + " " + x.now(1) + " " + x.now(2), now);
        Due.due("shut(0, 1) anew", x.shut(0, 1), 1);
        Due.due("undo() of it", x.undo(), 0);
        Due.due("wall(0, 5)", x.wall(0, 5), 0);
    }

    /** What was refused is not what was the latest. */
    private static void undoneNotWhatWasRefused() {
        SeenCools x = Due.yard(SIX);
        x.shut(0, 1);
        x.shut(0, 1);
        x.shut(1, 0);
        x.mirror(1, 0);
        x.shut(6, 1);
        x.mirror(1, 2);
        Due.due("count(5)", x.count(5), 1);
        Due.due("undo()", x.undo(), 0);
        Due.due("wall(0, 5)", x.wall(0, 5), 0);
    }

    /** "LIMIT (99 at first): above it is TOO WARM", as much as it isn't. */
    private static void tooWarmIsAboveTheLimit() {
        SeenCools first = Due.yard("wall 99 0;wall 99 0;work 1 1 1 0;");
        Due.due("now(3) of 99", first.now(3), 0);
        first.hour();
        Due.due("now(3) of 100", first.now(3), 2);
        for (int n = 0; n <= 9; n++) {
            int limit = 10 * n + 9;
            String most = n == 9 ? "" : "wall " + (limit + 1) + " 0;";
            SeenCools x = Due.yard("wall " + limit + " 0;" + most + "limit " + n + ";");
            Due.due("now(3) of limit " + n, x.now(3), n == 9 ? 0 : 2);
        }
        SeenCools high = Due.yard("wall 99 0;wall 98 0;work 0 20 15 15;work 1 20 15 15;limit 99;");
        Due.hours(high, 45);
        Due.due("now(3) of 999 and 998", high.now(3), 0);
        high.hour();
        Due.due("now(3) of 1019 and 1018", high.now(3), 3);
        Due.due("now(3) of six", Due.yard("wall 99 0;".repeat(6) + "limit 0;").now(3), 63);
    }

    /** "The warmest, of several the least." */
    private static void warmestIsTheLeastOfSeveral() {
        Due.due("now(4) of six alike", Due.yard(SIX).now(4), 0);
        Due.due("now(4) of cold ones", Due.yard("wall 0 0;wall 0 0;").now(4), 0);
        Due.due("now(4) of the last", Due.yard("wall 1 0;wall 2 0;wall 3 0;").now(4), 2);
        Due.due("now(4) of two", Due.yard("wall 1 0;wall 3 0;wall 3 0;").now(4), 1);
        Due.due("now(4) of one", Due.yard("wall 0 0;").now(4), 0);
    }

    /** "(NONE)": no WALLS, no warmest; no WARMTH, none TOO WARM. */
    private static void nowOfNoWalls() {
        SeenCools x = new SeenCools();
        Due.due("hour() of none", x.hour(), 0);
        int[] due = {1, 0, 0, 0, NONE};
        for (int what = 0; what < due.length; what++) {
            Due.due("now(" + what + ") of none", x.now(what), due[what]);
        }
    }
}
