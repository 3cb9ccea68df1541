/** Promises 22 to 26: MARKS of KINDS, IMAGES, counts, THE TRACE; and the constants. */
final class KindsTest {
    private static final int BAD = -1, STATE = -2, NO = -1000000;

    public static void main(String[] args) {
        constants();
        promise22Mark();
        promise23Keep();
        promise24Back();
        promise24Undo();
        promise25Count();
        promise26Trace();
        Due.end("KindsTest");
    }

    private static void constants() {
        Due.due("BAD", SeenCools.BAD, BAD);
        Due.due("STATE", SeenCools.STATE, STATE);
        Due.due("FULL", SeenCools.FULL, -3);
        Due.due("NONE", SeenCools.NONE, -9);
        Due.due("NO", SeenCools.NO, NO);
    }

    private static void promise22Mark() {
        SeenCools x = Due.yard("wall 80 5;wall 20 2;wall 3 9;sees 0 1 3;sees 0 2 1;");
        marks(x, 0, 80, 85, 74, 170, 74, 80);
        marks(x, 1, 20, 22, 13, 44, 14, 20);
        marks(x, 2, 3, 12, -6, 24, -4, 3);
        Due.hours(x, 2);
        x.shut(2, 1);
        x.mirror(1, 1);
        int warmth = x.wall(1, 0);
        marks(x, 1, warmth, warmth + 2, warmth - 7, 2 * warmth + 4, warmth - 6, warmth + 2);
        Due.refused(x, "mark(6, 0)", () -> x.mark(6, 0), NO);
        Due.refused(x, "mark(-1, 0)", () -> x.mark(-1, 0), NO);
        Due.refused(x, "mark(0, 3)", () -> x.mark(0, 3), NO);
        Due.refused(x, "mark(5, -1)", () -> x.mark(5, -1), NO);
        SeenCools none = new SeenCools();
        Due.refused(none, "mark(0, 0) of none", () -> none.mark(0, 0), NO);
    }

    private static void marks(SeenCools x, int w, int... due) {
        for (int kind = 0; kind < due.length; kind++) {
            Due.due("mark(" + kind + ", " + w + ")", x.mark(kind, w), due[kind]);
        }
    }

    private static void promise23Keep() {
        SeenCools x = Due.yard("wall 80 5;");
        Due.due("keep(0)", x.keep(0), 0);
        Due.hours(x, 3);
        Due.due("keep(1)", x.keep(1), 3);
        Due.changesNothing(x, "keep(1)", () -> x.keep(1));
        Due.refused(x, "keep(2)", () -> x.keep(2), BAD);
        Due.refused(x, "keep(-1)", () -> x.keep(-1), BAD);
        Due.due("back(0)", x.back(0), 0);
        Due.due("WARMTHS", Due.warmths(x), "80");
        x.hour();
        Due.due("keep(0) again", x.keep(0), 1);
        x.hour();
        Due.due("back(0)", x.back(0), 1);
        Due.due("WARMTHS", Due.warmths(x), "40");
        Due.due("keep(0) of none", new SeenCools().keep(0), 0);
    }

    private static void promise24Back() {
        SeenCools x = Due.yard("wall 80 5;wall 20 2;sees 0 1 3;");
        Due.refused(x, "back(0)", () -> x.back(0), STATE);
        Due.refused(x, "back(2)", () -> x.back(2), BAD);
        Due.refused(x, "back(-1)", () -> x.back(-1), BAD);
        x.shut(0, 1);
        x.hour();
        x.mirror(1, 1);
        x.hour();
        x.keep(1);
        String kept = Due.picture(x);
        Due.refused(x, "back(0)", () -> x.back(0), STATE);
        x.undo();
        x.shut(0, 0);
        x.shut(1, 1);
        Due.hours(x, 3);
        Due.due("back(1)", x.back(1), 2);
        Due.due("all as kept", Due.picture(x), kept);
        x.hour();
        Due.due("back(1) again", x.back(1), 2);
        Due.due("all as kept again", Due.picture(x), kept);
        // What is no part of an IMAGE stays: what was SEEN, THE TEXT, THE TRACE.
        x.saw(1, 1, 1);
        Due.put(x, "wall");
        x.mark(0, 0);
        x.back(1);
        Due.due("count(4)", x.count(4), 1);
        Due.due("count(6)", x.count(6), 4);
        Due.due("trace()", x.trace(), 1);
    }

    private static void promise24Undo() {
        SeenCools x = Due.yard("wall 1 1;wall 1 1;wall 1 1;");
        x.shut(0, 1);
        x.mirror(2, 1);
        x.keep(0);
        x.undo();
        x.undo();
        x.shut(1, 1);
        x.shut(1, 0);
        x.shut(1, 1);
        x.back(0);
        Due.due("count(5)", x.count(5), 2);
        Due.due("undo()", x.undo(), 1);
        Due.due("wall(2, 6)", x.wall(2, 6), 0);
        Due.due("wall(0, 5)", x.wall(0, 5), 1);
        Due.due("undo()", x.undo(), 0);
        Due.due("wall(0, 5)", x.wall(0, 5), 0);
        Due.due("undo() of none", x.undo(), STATE);
        Due.due("back(0)", x.back(0), 0);
        Due.due("count(5)", x.count(5), 2);
    }

    private static void promise25Count() {
        SeenCools x = Due.yard("wall 1 1;wall 1 1;wall 1 1;limit 3;");
        x.shut(1, 1);
        x.shut(0, 1);
        x.mirror(1, 1);
        x.saw(0, 0, 1);
        Due.put(x, "wall 1 1;limit");
        int[] due = {3, 39, 2, 1, 1, 3, 14};
        for (int what = 0; what < due.length; what++) {
            Due.due("count(" + what + ")", x.count(what), due[what]);
        }
        Due.refused(x, "count(7)", () -> x.count(7), BAD);
        Due.refused(x, "count(-1)", () -> x.count(-1), BAD);
        Due.due("LIMIT of 0", Due.yard("limit 0;").count(1), 9);
        Due.due("LIMIT of 99", Due.yard("limit 99;").count(1), 999);
    }

    private static void promise26Trace() {
        SeenCools x = Due.yard("wall 1 1;wall 2 2;");
        int[] steps = {1, 11, 101, 1011, 10101, 100001};
        long sum = 0;
        Due.due("trace()", x.trace(), 0);
        for (int kind = 0; kind < steps.length; kind++) {
            for (int w = 0; w < 2; w++) {
                x.mark(kind, w);
                sum += steps[kind];
                Due.due("trace() behind mark(" + kind + ", " + w + ")", x.trace(), sum);
            }
        }
        x.keep(0);
        x.mark(0, 0);
        x.back(0);
        Due.due("trace() behind back()", x.trace(), sum + 1);
        x.walls();
        Due.due("trace() behind walls()", x.trace(), sum + 1);
        Due.due("trace() of another", new SeenCools().trace(), 0);
    }
}
