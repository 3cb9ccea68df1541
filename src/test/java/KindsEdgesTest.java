/** KINDS, IMAGES, counts and THE TRACE at their edges (promises 22 to 26): a test for each sentence that names one. */
final class KindsEdgesTest {
    private static final int BAD = -1, STATE = -2, NO = -1000000;
    private static final int[] STEPS = {1, 11, 101, 1011, 10101, 100001};

    public static void main(String[] args) {
        markOfSixKinds();
        markBelowZero();
        markOfTheMost();
        markRefusedIsNoStep();
        imagesAreTwo();
        imagesAreApart();
        imagesAreKeptAnew();
        imagesKeepAllOfNow();
        imagesKeepNothingElse();
        imagesKeepTenToBeUndone();
        backIsStateWhereNoneWasKept();
        imagesStayAtAFault();
        imagesAreGoneWhenReadAnew();
        countOfNoneAndOfAll();
        countOfWhatThereIsNot();
        traceOfAllCallsTogether();
        traceStays();
        Due.end("KindsEdgesTest");
    }

    /** "0 WALL; 1 FIN, 2 BRICK, 5 HULL; 3 FURNACE; 4 WINDOW": there is none ahead of 0 or behind 5. */
    private static void markOfSixKinds() {
        SeenCools x = Due.yard("wall 1 1;wall 80 5;sees 0 1 3;");
        x.hour();
        int[] due = {40, 45, 33, 90, 34, 41};
        for (int kind = -3; kind <= 8; kind++) {
            boolean is = kind >= 0 && kind <= 5;
            Due.due("mark(" + kind + ", 1)", x.mark(kind, 1), is ? due[kind] : NO);
        }
    }

    /** "Less how many parts of the DARK": below 0 it is no refusal, even if it looks like one. */
    private static void markBelowZero() {
        for (int parts = 0; parts <= 10; parts++) {
            SeenCools x = Due.yard("wall 0 0;wall 0 0;" + (parts == 0 ? "" : "sees 0 1 " + parts + ";"));
            Due.due("mark(2, 0) of a cold one", x.mark(2, 0), parts - 10);
            Due.due("mark(4, 1) of a cold one", x.mark(4, 1), parts - 9);
            Due.due("trace()", x.trace(), 101 + 10101);
        }
    }

    /** The last WALL, the highest RATE, no DARK, a late HOUR. */
    private static void markOfTheMost() {
        SeenCools x = Due.yard("wall 0 0;".repeat(5) + "wall 99 9;sees 5 0 10;work 5 20 15 15;");
        int[] due = {99, 108, 99, 216, 104, 99};
        for (int kind = 0; kind <= 5; kind++) {
            Due.due("mark(" + kind + ", 5)", x.mark(kind, 5), due[kind]);
        }
        x.shut(5, 1);
        Due.hours(x, 400);
        int[] later = {8099, 8108, 8099, 16216, 8104, 8499};
        for (int kind = 0; kind <= 5; kind++) {
            Due.due("mark(" + kind + ", 5) later", x.mark(kind, 5), later[kind]);
        }
    }

    /** "NO: BAD"; then no body is asked. */
    private static void markRefusedIsNoStep() {
        SeenCools x = Due.yard("wall 1 1;wall 2 2;");
        for (int kind = -1; kind <= 6; kind++) {
            for (int w : new int[] {-1, 2, 5, 6, Integer.MIN_VALUE, Integer.MAX_VALUE}) {
                Due.due("mark(" + kind + ", " + w + ")", x.mark(kind, w), NO);
            }
        }
        for (int kind : new int[] {-1, 6, 32, 256, Integer.MIN_VALUE, Integer.MAX_VALUE}) {
            Due.due("mark(" + kind + ", 0)", x.mark(kind, 0), NO);
        }
        Due.due("trace()", x.trace(), 0);
    }

    /** "IMAGES 0, 1": no other ones, none below. */
    private static void imagesAreTwo() {
        for (int image : new int[] {-1, 2, 3, 32, 256, Integer.MIN_VALUE, Integer.MAX_VALUE}) {
            SeenCools x = Due.yard("wall 9 9;");
            x.keep(0);
            x.keep(1);
            Due.due("keep(" + image + ")", x.keep(image), BAD);
            Due.due("back(" + image + ")", x.back(image), BAD);
        }
        Due.due("keep(0) of no WALLS", new SeenCools().keep(0), 0);
        Due.due("keep(1) of no WALLS", new SeenCools().keep(1), 0);
    }

    /** Each IMAGE has what was when it was kept. */
    private static void imagesAreApart() {
        SeenCools x = Due.yard("wall 80 5;");
        Due.due("keep(1)", x.keep(1), 0);
        x.hour();
        Due.due("keep(0)", x.keep(0), 1);
        x.hour();
        for (int i = 0; i < 3; i++) {
            Due.due("back(1)", x.back(1), 0);
            Due.due("wall(0, 0)", x.wall(0, 0), 80);
            Due.due("back(0)", x.back(0), 1);
            Due.due("wall(0, 0)", x.wall(0, 0), 40);
        }
    }

    /** "An IMAGE is kept": what it had is lost; the other one stays. */
    private static void imagesAreKeptAnew() {
        SeenCools x = Due.yard("wall 80 5;");
        x.keep(0);
        x.keep(1);
        Due.hours(x, 2);
        Due.due("keep(0) anew", x.keep(0), 2);
        x.hour();
        Due.due("back(0)", x.back(0), 2);
        Due.due("wall(0, 0)", x.wall(0, 0), 20);
        Due.due("back(1)", x.back(1), 0);
        Due.due("wall(0, 0)", x.wall(0, 0), 80);
    }

    private static String present(SeenCools x) {
        StringBuilder all = new StringBuilder();
        for (int what = 0; what <= 4; what++) {
            all.append(x.now(what)).append(' ');
        }
        for (int w = 0; w < x.count(0); w++) {
            all.append(x.wall(w, 0)).append(' ').append(x.wall(w, 5)).append(x.wall(w, 6)).append(' ');
        }
        return all.append(x.count(5)).toString();
    }

    /** "WARMTHS, HOUR, SHUT ones, MIRRORS, GIVEN to the DARK, what may be UNDONE", each of its own. */
    private static void imagesKeepAllOfNow() {
        SeenCools x = Due.yard("wall 80 5;wall 20 2;sees 0 1 3;work 1 7 3 0;");
        x.shut(0, 1);
        x.mirror(1, 1);
        x.hour();
        String kept = present(x);
        x.keep(0);
        x.hour();
        Due.due("back(0) from another HOUR", x.back(0), 1);
        Due.due("NOW", present(x), kept);
        x.shut(1, 1);
        Due.due("back(0) from another SHUT", x.back(0), 1);
        Due.due("NOW", present(x), kept);
        x.mirror(0, 1);
        Due.due("back(0) from another MIRROR", x.back(0), 1);
        Due.due("NOW", present(x), kept);
        x.undo();
        x.undo();
        Due.due("back(0) when all is UNDONE", x.back(0), 1);
        Due.due("NOW", present(x), kept);
        Due.due("undo()", x.undo(), 1);
        Due.due("wall(1, 6)", x.wall(1, 6), 0);
        Due.due("undo()", x.undo(), 0);
        Due.due("wall(0, 5)", x.wall(0, 5), 0);
    }

    /** "Nothing else": SEEN, THE TEXT, THE TRACE, what is told stay as they are; so do the IMAGES. */
    private static void imagesKeepNothingElse() {
        SeenCools x = Due.yard("wall 80 5;limit 3;");
        x.saw(1, 0, 40);
        Due.put(x, "wall");
        x.mark(0, 0);
        x.keep(0);
        x.saw(1, 0, 39);
        Due.put(x, " 9 9");
        x.mark(5, 0);
        Due.due("back(0)", x.back(0), 0);
        Due.due("count(4)", x.count(4), 2);
        Due.due("holes(-1)", x.holes(-1), 0);
        Due.due("count(6)", x.count(6), 8);
        Due.due("trace()", x.trace(), 100002);
        x.forget();
        x.clear();
        Due.due("back(0)", x.back(0), 0);
        Due.due("count(4)", x.count(4), 0);
        Due.due("count(6)", x.count(6), 0);
        Due.due("count(1)", x.count(1), 39);
        Due.due("trace()", x.trace(), 100002);
    }

    /** "What may be UNDONE": all ten, in their order; those that are lost stay lost. */
    private static void imagesKeepTenToBeUndone() {
        SeenCools x = Due.yard("wall 1 1;".repeat(6));
        for (int w = 0; w < 6; w++) {
            x.shut(w, 1);
            x.mirror(w, 1);
        }
        x.keep(1);
        for (int round = 0; round < 2; round++) {
            for (int i = 0; i < 11; i++) {
                x.shut(0, i % 2);
            }
            Due.due("back(1)", x.back(1), 0);
            Due.due("count(5)", x.count(5), 10);
            for (int left = 9; left >= 0; left--) {
                Due.due("undo()", x.undo(), left);
                int w = left / 2 + 1;
                Due.due("wall(" + w + ", 6), " + left + " left", x.wall(w, 6), 0);
                Due.due("wall(" + w + ", 5), " + left + " left", x.wall(w, 5), left % 2);
                Due.due("SHUT ones and MIRRORS, " + left + " left", x.count(2) + x.count(3), left + 2);
            }
            Due.due("undo() of what is lost", x.undo(), STATE);
        }
    }

    /** "STATE: none was kept", of each IMAGE for itself. */
    private static void backIsStateWhereNoneWasKept() {
        for (int image = 0; image <= 1; image++) {
            SeenCools x = Due.yard("wall 80 5;");
            Due.due("back(" + image + ") of none", x.back(image), STATE);
            x.hour();
            x.keep(1 - image);
            Due.due("back(" + image + ") where the other was", x.back(image), STATE);
            Due.due("now(0)", x.now(0), 1);
            x.keep(image);
            Due.due("back(" + image + ")", x.back(image), 1);
            Due.due("back(2)", x.back(2), BAD);
        }
        Due.due("back(0) of a new one", new SeenCools().back(0), STATE);
        Due.due("back(1) of a new one", new SeenCools().back(1), STATE);
    }

    /** "Nothing changes": a FAULT leaves the IMAGES. */
    private static void imagesStayAtAFault() {
        SeenCools x = Due.yard("wall 80 5;");
        x.keep(0);
        x.hour();
        x.keep(1);
        Due.put(x, "wall 1 1;wall");
        Due.due("walls()", x.walls(), -10 - 13);
        Due.due("back(0)", x.back(0), 0);
        Due.due("back(1)", x.back(1), 1);
        Due.due("wall(0, 0)", x.wall(0, 0), 40);
    }

    /** "Read anew: .. IMAGES are gone", by a text of no ITEMS, too. */
    private static void imagesAreGoneWhenReadAnew() {
        for (String text : new String[] {"", "wall 80 5;"}) {
            SeenCools x = Due.yard("wall 80 5;");
            x.keep(0);
            x.keep(1);
            Due.put(x, text);
            x.walls();
            Due.due("back(0)", x.back(0), STATE);
            Due.due("back(1)", x.back(1), STATE);
            Due.due("keep(1)", x.keep(1), 0);
            Due.due("back(0)", x.back(0), STATE);
            Due.due("back(1)", x.back(1), 0);
        }
    }

    private static void counts(SeenCools x, int... due) {
        for (int what = 0; what < due.length; what++) {
            Due.due("count(" + what + ")", x.count(what), due[what]);
        }
    }

    /** Of each there is none, and as much as can be. */
    private static void countOfNoneAndOfAll() {
        counts(new SeenCools(), 0, 99, 0, 0, 0, 0, 0);
        counts(Laden.full(), 6, 999, 6, 6, 8, 10, 250);
        counts(Due.yard("limit 0;"), 0, 9, 0, 0, 0, 0, 0);
    }

    /** "BAD": there is no such count, no such NOW, nothing else of a WALL. */
    private static void countOfWhatThereIsNot() {
        SeenCools x = Due.yard("wall 1 1;");
        for (int what = -9; what <= 40; what++) {
            Due.due("count(" + what + ") is BAD", x.count(what) == BAD ? 1 : 0, what < 0 || what > 6 ? 1 : 0);
            Due.due("now(" + what + ") is BAD", x.now(what) == BAD ? 1 : 0, what < 0 || what > 4 ? 1 : 0);
            Due.due("wall(0, " + what + ") is BAD", x.wall(0, what) == BAD ? 1 : 0, what < 0 || what > 6 ? 1 : 0);
        }
    }

    /** "Numbers in brackets come to THE TRACE (0 at first; of all calls ever, together) as often as .. asks that body". */
    private static void traceOfAllCallsTogether() {
        SeenCools x = Due.yard("wall 1 1;wall 2 2;");
        Due.due("trace() at first", x.trace(), 0);
        long due = 0;
        for (int i = 0; i < 200; i++) {
            int kind = i * 5 % 6;
            x.mark(kind, i % 2);
            due += STEPS[kind];
            Due.due("trace() behind " + (i + 1) + " MARKS", x.trace(), due);
        }
        SeenCools most = Due.yard("wall 1 1;");
        for (int i = 0; i < 500; i++) {
            most.mark(5, 0);
        }
        Due.due("trace() of 500 HULLS", most.trace(), 50000500L);
    }

    /** "THE TRACE stays", whatever is read anew or comes back. */
    private static void traceStays() {
        SeenCools x = Due.yard("wall 1 1;");
        x.keep(0);
        x.mark(4, 0);
        x.back(0);
        Due.due("trace() behind back()", x.trace(), 10101);
        Due.put(x, "wall");
        x.walls();
        x.clear();
        x.walls();
        Due.due("trace() of no WALLS", x.trace(), 10101);
        Due.due("mark(0, 0) of none", x.mark(0, 0), NO);
        Due.due("trace() of no WALLS", x.trace(), 10101);
        Due.put(x, "wall 2 2;");
        x.walls();
        x.mark(0, 0);
        Due.due("trace() of other WALLS", x.trace(), 10102);
        Due.due("trace() of another object", new SeenCools().trace(), 0);
    }
}
