/** Promises 7 to 11: HOURS that go by, SHUT ones, MIRRORS, what is UNDONE, NOW. */
final class HoursTest {
    private static final int BAD = -1, STATE = -2, NONE = -9;
    private static final String TWO = "wall 50 5;wall 30 9;sees 0 1 4;work 1 7 1 0;";

    public static void main(String[] args) {
        promise7Hour();
        promise7ShutAndMirrors();
        promise7Works();
        promise8Shut();
        promise9Mirror();
        promise10Undo();
        promise10TenAreKnown();
        promise11Now();
        Due.end("HoursTest");
    }

    private static void promise7Hour() {
        SeenCools x = Due.yard(TWO);
        Due.due("hour()", x.hour(), 32);
        Due.due("WARMTHS", Due.warmths(x), "35 20");
        Due.due("hour()", x.hour(), 22);
        Due.due("WARMTHS", Due.warmths(x), "25 8");
        Due.due("now(0)", x.now(0), 2);
        Due.due("now(2)", x.now(2), 54);
        SeenCools rest = Due.yard("wall 1 9;wall 99 0;sees 0 1 10;");
        Due.due("hour() where all is cut", rest.hour(), 0);
        Due.due("WARMTHS", Due.warmths(rest), "1 99");
        SeenCools cut = Due.yard("wall 19 1;wall 0 0;wall 0 0;sees 0 1 5;sees 0 2 5;");
        Due.due("hour() where the parts are cut", cut.hour(), 1);
        Due.due("WARMTHS", Due.warmths(cut), "18 0 0");
    }

    private static void promise7ShutAndMirrors() {
        SeenCools shut = Due.yard(TWO);
        shut.shut(1, 1);
        Due.due("hour() at a SHUT one", shut.hour(), 25);
        Due.due("WARMTHS", Due.warmths(shut), "25 37");
        SeenCools mirror = Due.yard(TWO);
        mirror.mirror(1, 1);
        Due.due("hour() at a MIRROR", mirror.hour(), 32);
        Due.due("WARMTHS", Due.warmths(mirror), "45 10");
        SeenCools both = Due.yard(TWO);
        both.mirror(1, 1);
        both.shut(1, 1);
        Due.due("hour() at a SHUT MIRROR", both.hour(), 15);
        Due.due("WARMTHS", Due.warmths(both), "35 37");
        SeenCools self = Due.yard("wall 50 5;");
        self.mirror(0, 1);
        Due.due("hour() of a MIRROR alone", self.hour(), 25);
        SeenCools none = Due.yard(TWO);
        none.shut(0, 1);
        none.shut(1, 1);
        Due.due("hour() of SHUT ones", none.hour(), 0);
        Due.due("WARMTHS", Due.warmths(none), "50 37");
    }

    private static void promise7Works() {
        SeenCools x = Due.yard("wall 0 0;wall 0 0;work 0 5 0 8;work 1 3 2 1;");
        String[] due = {"0 0", "0 3", "0 3", "0 3", "0 6", "0 6", "0 6", "5 6", "5 6", "5 9"};
        for (int i = 0; i < due.length; i++) {
            x.hour();
            Due.due("WARMTHS behind " + (i + 1) + " HOURS", Due.warmths(x), due[i]);
        }
    }

    private static void promise8Shut() {
        SeenCools x = Due.yard("wall 10 5;wall 20 5;wall 30 5;");
        Due.due("shut(1, 1)", x.shut(1, 1), 1);
        Due.due("shut(2, 1)", x.shut(2, 1), 2);
        Due.refused(x, "shut(1, 1) again", () -> x.shut(1, 1), STATE);
        Due.refused(x, "shut(0, 0)", () -> x.shut(0, 0), STATE);
        Due.due("shut(1, 0)", x.shut(1, 0), 1);
        Due.due("wall(1, 5)", x.wall(1, 5), 0);
        Due.due("wall(2, 5)", x.wall(2, 5), 1);
        Due.due("WARMTHS", Due.warmths(x), "10 20 30");
        Due.refused(x, "shut(3, 1)", () -> x.shut(3, 1), BAD);
        Due.refused(x, "shut(-1, 1)", () -> x.shut(-1, 1), BAD);
        Due.refused(x, "shut(0, 2)", () -> x.shut(0, 2), BAD);
        Due.refused(x, "shut(0, -1)", () -> x.shut(0, -1), BAD);
        Due.due("count(3)", x.count(3), 0);
        Due.due("count(5)", x.count(5), 3);
    }

    private static void promise9Mirror() {
        SeenCools x = Due.yard("wall 10 5;wall 20 5;wall 30 5;");
        Due.due("mirror(0, 1)", x.mirror(0, 1), 1);
        Due.due("mirror(2, 1)", x.mirror(2, 1), 2);
        Due.due("mirror(1, 1)", x.mirror(1, 1), 3);
        Due.refused(x, "mirror(1, 1) again", () -> x.mirror(1, 1), STATE);
        Due.due("mirror(0, 0)", x.mirror(0, 0), 2);
        Due.refused(x, "mirror(0, 0) again", () -> x.mirror(0, 0), STATE);
        Due.refused(x, "mirror(3, 0)", () -> x.mirror(3, 0), BAD);
        Due.refused(x, "mirror(-1, 0)", () -> x.mirror(-1, 0), BAD);
        Due.refused(x, "mirror(1, 2)", () -> x.mirror(1, 2), BAD);
        Due.refused(x, "mirror(1, -1)", () -> x.mirror(1, -1), BAD);
        Due.due("count(2)", x.count(2), 0);
        Due.due("count(5)", x.count(5), 4);
    }

    private static void promise10Undo() {
        SeenCools x = Due.yard("wall 80 5;wall 20 2;");
        Due.refused(x, "undo() of none", x::undo, STATE);
        x.shut(0, 1);
        x.mirror(1, 1);
        x.hour();
        x.shut(0, 0);
        x.hour();
        String warmths = Due.warmths(x);
        Due.due("undo()", x.undo(), 2);
        Due.due("wall(0, 5)", x.wall(0, 5), 1);
        Due.due("undo()", x.undo(), 1);
        Due.due("wall(1, 6)", x.wall(1, 6), 0);
        Due.due("wall(0, 5)", x.wall(0, 5), 1);
        Due.due("undo()", x.undo(), 0);
        Due.due("wall(0, 5)", x.wall(0, 5), 0);
        Due.due("WARMTHS stay", Due.warmths(x), warmths);
        Due.due("the HOUR stays", x.now(0), 2);
        Due.refused(x, "undo() of none", x::undo, STATE);
    }

    private static void promise10TenAreKnown() {
        SeenCools x = Due.yard("wall 1 1;wall 1 1;wall 1 1;wall 1 1;wall 1 1;wall 1 1;");
        x.mirror(5, 1);
        x.shut(3, 1);
        for (int i = 0; i < 10; i++) {
            Due.due("count(5)", x.count(5), Math.min(10, i + 2));
            x.shut(2, 1 - i % 2);
        }
        for (int i = 9; i >= 0; i--) {
            Due.due("undo()", x.undo(), i);
            Due.due("wall(2, 5)", x.wall(2, 5), i % 2);
        }
        Due.refused(x, "undo() of what is lost", x::undo, STATE);
        Due.due("wall(5, 6)", x.wall(5, 6), 1);
        Due.due("wall(3, 5)", x.wall(3, 5), 1);
    }

    private static void promise11Now() {
        SeenCools x = Due.yard("wall 19 0;wall 20 0;wall 20 1;wall 3 0;limit 1;");
        int[] due = {0, 62, 0, 6, 1};
        for (int what = 0; what < due.length; what++) {
            Due.due("now(" + what + ")", x.now(what), due[what]);
        }
        x.hour();
        int[] then = {1, 60, 2, 2, 1};
        for (int what = 0; what < then.length; what++) {
            Due.due("now(" + what + ") then", x.now(what), then[what]);
        }
        Due.refused(x, "now(5)", () -> x.now(5), BAD);
        Due.refused(x, "now(-1)", () -> x.now(-1), BAD);
        SeenCools none = new SeenCools();
        Due.due("now(4) of none", none.now(4), NONE);
        Due.due("now(3) of none", none.now(3), 0);
        SeenCools cold = Due.yard("wall 0 0;wall 0 0;");
        Due.due("now(4) of cold ones", cold.now(4), 0);
    }
}
