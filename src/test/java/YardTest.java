/** Promises 1 to 6: a new object, THE TEXT, what it tells. */
final class YardTest {
    private static final int BAD = -1, STATE = -2, FULL = -3, NONE = -9;

    public static void main(String[] args) {
        promise1New();
        promise2Type();
        promise3Clear();
        promise4Items();
        promise4Faults();
        promise4NothingChangesAtAFault();
        promise4ReadAnew();
        promise5Wall();
        promise6Sees();
        Due.end("YardTest");
    }

    private static void promise1New() {
        SeenCools x = new SeenCools();
        Due.due("a new yard", Due.picture(x), "0 99 0 0 0 0 0 0 0 0 0 -9 64 0");
        Due.due("wall(0, 0)", x.wall(0, 0), BAD);
        Due.due("first(0)", x.first(0), NONE);
        Due.due("rest()", x.rest(), 0);
        Due.due("coolest(0, 1)", x.coolest(0, 1), NONE);
        Due.due("harm(-1, 1)", x.harm(-1, 1), NONE);
        Due.due("undo()", x.undo(), STATE);
        Due.due("back(1)", x.back(1), STATE);
        Due.due("clear()", x.clear(), 0);
        Due.due("forget()", x.forget(), 0);
        Due.due("walls()", x.walls(), 0);
        Due.due("hour()", x.hour(), 0);
        Due.due("now(0)", x.now(0), 1);
    }

    private static void promise2Type() {
        SeenCools x = new SeenCools();
        Due.refused(x, "type(65, 0)", () -> x.type(65, 0), BAD);
        Due.refused(x, "type(65, 9)", () -> x.type(65, 9), BAD);
        Due.refused(x, "type(65, -1)", () -> x.type(65, -1), BAD);
        Due.refused(x, "type(65, MIN)", () -> x.type(65, Integer.MIN_VALUE), BAD);
        Due.due("type the lowest 4 of 6", x.type(0x414277616C6CL, 4), 4);
        Due.due("type 1", x.type(' ', 1), 5);
        Due.due("type 4", x.type(0x37203320L, 4), 9);
        Due.due("type ;", x.type(-256L | ';', 1), 10);
        Due.due("walls()", x.walls(), 1);
        Due.due("wall(0, 0)", x.wall(0, 0), 7);
        Due.due("wall(0, 1)", x.wall(0, 1), 3);
        Due.due("type(-1, 8)", x.type(-1L, 8), 8);
        Due.due("walls() of bytes 255", x.walls(), -10);
        x.clear();
        for (int i = 1; i <= 31; i++) {
            Due.due("type 8 blanks", x.type(0x2020202020202020L, 8), 8 * i);
        }
        Due.refused(x, "type 3 beyond 248", () -> x.type(0x202020L, 3), FULL);
        Due.due("type 2 beyond 248", x.type(0x2020L, 2), 250);
        Due.refused(x, "type 1 beyond 250", () -> x.type(0x20L, 1), FULL);
        Due.refused(x, "type 0 beyond 250", () -> x.type(0x20L, 0), BAD);
        Due.refused(x, "type 9 beyond 250", () -> x.type(0x20L, 9), BAD);
        Due.due("walls() of 250 blanks", x.walls(), 0);
        Due.due("type when it is empty", x.type(0x20L, 1), 1);
    }

    private static void promise3Clear() {
        SeenCools x = Due.yard("wall 7 3;");
        Due.due("clear() of none", x.clear(), 0);
        Due.put(x, "wall 1 1;wall 2 2");
        Due.due("clear()", x.clear(), 17);
        Due.due("count(6)", x.count(6), 0);
        Due.due("clear() again", x.clear(), 0);
        Due.due("the WALL is as ahead", Due.warmths(x), "7");
        Due.put(x, "wall 5 5;");
        Due.due("walls()", x.walls(), 1);
        Due.due("the WALL is read anew", Due.warmths(x), "5");
    }

    private static void promise4Items() {
        Due.reads("", 0);
        Due.reads("     ", 0);
        Due.reads("wall 1 1;", 1);
        Due.reads("  wall   1   1  ;  ", 1);
        Due.reads("wall1 1;wall2 2;sees0 1 5;work1 3 0 15;limit0;", 5);
        Due.reads("wall 0 0;wall 99 9;wall 10 1;wall 9 9;wall 1 1;wall 5 5;", 6);
        Due.reads("limit 99;wall 1 1;", 2);
        Due.reads("wall 1 1;wall 1 1;sees 0 1 4;sees 1 0 6;", 4);
        Due.reads("wall 1 1;work 0 20 15 15;work 0 0 0 0;", 3);
        Due.reads("wall1 1;wall1 1;" + "sees0 1 1;".repeat(10) + "work0 0 0 0;".repeat(11) + "  ", 23);
    }

    private static void promise4Faults() {
        String[] texts = {
            "wall^", "wall ^", "wall 1^", "wall 1 1^", "wall 1 1   ^", "limit 1^", "  wall 1 1;  wall ^",
            "^wal 1 1;", "^walls 1 1;", "^wallsees", "^wallz 1 1;", "^awall 1 1;", "^mall 1 1;", "wall^` 1;", "wall^{1 1;", "wall ^/ 1;", "wall ^: 1;",
            "^Wall 1 1;", "^wAll 1 1;", "wall 1 1;^x", "^;", "wall 1 1;^;", "^1",
            "wall^;", "wall ^wall 1;", "wall 1 ^wall;", "wall 11^;", "wall 1 1 ^1;", "wall 1 1 ^wall 1 1;",
            "wall ^100 1;", "wall 1 ^10;", "wall ^01 1;", "wall ^00 1;", "wall 1 ^00;", "wall 1 ^01;", "wall ^000 1;",
            "wall ^4294967297 1;", "wall ^18446744073709551617 1;", "wall 1 ^-1;", "wall 1^\t1;", "wall 1 1^,", "^\u0000",
            "^\u00ff", "wall 1 1;^\u00a0", "wall ^1234;", "wall ^805;", "wall 1 1^\n;",
            "sees ^0 1 1;", "wall 1 1;sees ^1 0 1;", "wall 1 1;sees 0 ^1 1;", "wall 1 1;sees 0 ^0 1;",
            "wall 1 1;wall 1 1;sees 0 1 ^0;", "wall 1 1;wall 1 1;sees 0 1 ^11;", "wall 1 1;wall 1 1;sees 1 ^1 1;",
            "wall 1 1;wall 1 1;sees 0 1 5;sees 1 0 ^6;", "wall 1 1;wall 1 1;sees 0 1 10;sees 0 1 ^1;",
            "wall 1 1;wall 1 1;wall 1 1;sees 0 1 6;sees 1 2 4;sees 0 2 ^5;",
            "wall 1 1;wall 1 1;wall 1 1;sees 0 1 6;sees 2 1 ^5;", "wall 1 1;wall 1 1;sees 0 ^2 1;wall 1 1;",
            "wall 1 1;wall 1 1;sees 0 1 1 ^1;", "wall 1 1;wall 1 1;sees 0 1^;", "wall 1 1;wall 1 1;sees 0 1 ^01;",
            "work ^0 1 1 1;wall 1 1;", "wall 1 1;work ^1 1 1 1;", "wall 1 1;work 0 ^21 1 1;", "wall 1 1;work 0 20 ^16 1;",
            "wall 1 1;work 0 20 15 ^16;", "wall 1 1;work 0 1 1^;", "wall 1 1;work 0 1 1 1^", "wall 1 1;work 0 1 1 1 ^1;",
            "limit ^100;", "limit 1;^limit 1;", "limit 1 ^1;", "limit^;", "limit ^limit;",
            "wall 1 1;wall 1 1;wall 1 1;wall 1 1;wall 1 1;wall 1 1;^wall 1 1;",
            "wall 1 1;wall 1 1;wall 1 1;wall 1 1;wall 1 1;wall 1 1;limit 1;^wall",
            "^" + ";".repeat(250), " ".repeat(246) + "wall^", "wall 1 1;" + " ".repeat(240) + "^1",
            "wall ^100 @;", "wall ^@ 100;", "wall 1 1; ^@ wall",
        };
        for (String marked : texts) {
            Due.fault(marked);
        }
    }

    private static void promise4NothingChangesAtAFault() {
        SeenCools x = Due.yard("wall 80 5;wall 20 2;sees 0 1 3;limit 5;work 1 7 3 0;");
        x.hour();
        x.shut(0, 1);
        x.mirror(1, 1);
        x.saw(1, 0, 50);
        x.keep(0);
        Due.put(x, "limit 77;wall 1 1;wall 2 2;sees 0 1 9;wall 3 33;");
        Due.refused(x, "walls()", x::walls, -10 - 45);
        Due.due("count(6)", x.count(6), 48);
        Due.due("back(0)", x.back(0), 1);
        Due.due("undo()", x.undo(), 1);
        Due.put(x, ";");
        Due.due("walls() again", x.walls(), -10 - 45);
        x.clear();
        Due.put(x, "wall 1 1;");
        Due.due("walls() of another", x.walls(), 1);
        Due.due("nothing is left of the faulty one", Due.picture(x), "1 99 0 0 0 0 0 0 1 0 0 0 1 1 0 0 10 0 0 -1 1 65 0");
    }

    private static void promise4ReadAnew() {
        SeenCools x = Due.yard("wall 80 5;wall 20 2;sees 0 1 3;limit 5;work 1 7 3 0;");
        x.hour();
        x.shut(0, 1);
        x.mirror(1, 1);
        x.saw(1, 0, 50);
        x.keep(0);
        x.keep(1);
        x.mark(5, 0);
        Due.put(x, "wall 9 0;");
        Due.due("walls()", x.walls(), 1);
        Due.due("all is as told", Due.picture(x), "1 99 0 0 0 0 0 0 9 0 0 0 9 0 0 0 10 0 0 -1 9 65 100001");
        Due.due("back(0)", x.back(0), STATE);
        Due.due("back(1)", x.back(1), STATE);
        Due.due("undo()", x.undo(), STATE);
        Due.put(x, "wall 9 0;wall 8 0;");
        x.walls();
        Due.due("sees(0, 1)", x.sees(0, 1), 0);
        Due.due("wall(1, 2)", x.wall(1, 2), 0);
        Due.due("wall(1, 3)", x.wall(1, 3), 0);
        Due.due("walls() of nothing", x.walls(), 0);
        Due.due("count(0)", x.count(0), 0);
    }

    private static void promise5Wall() {
        SeenCools x = Due.yard("wall 80 5;wall 0 9;wall 99 0;sees 0 1 3;sees 2 0 7;work 1 20 5 10;work 0 1 0 0;work 0 4 9 0;");
        int[][] told = {{80, 5, 4, 9, 0, 0, 0}, {0, 9, 20, 165, 7, 0, 0}, {99, 0, 0, 0, 3, 0, 0}};
        for (int w = 0; w < 3; w++) {
            for (int what = 0; what <= 6; what++) {
                Due.due("wall(" + w + ", " + what + ")", x.wall(w, what), told[w][what]);
            }
        }
        x.shut(1, 1);
        x.mirror(2, 1);
        Due.due("wall(1, 5)", x.wall(1, 5), 1);
        Due.due("wall(1, 6)", x.wall(1, 6), 0);
        Due.due("wall(2, 5)", x.wall(2, 5), 0);
        Due.due("wall(2, 6)", x.wall(2, 6), 1);
        x.hour();
        Due.due("wall(1, 0), WORKS alone", x.wall(1, 0), 20);
        Due.due("wall(1, 2)", x.wall(1, 2), 20);
        Due.refused(x, "wall(3, 0)", () -> x.wall(3, 0), BAD);
        Due.refused(x, "wall(-1, 0)", () -> x.wall(-1, 0), BAD);
        Due.refused(x, "wall(0, 7)", () -> x.wall(0, 7), BAD);
        Due.refused(x, "wall(0, -1)", () -> x.wall(0, -1), BAD);
        Due.refused(x, "wall(MAX, 0)", () -> x.wall(Integer.MAX_VALUE, 0), BAD);
        Due.refused(x, "wall(MIN, 0)", () -> x.wall(Integer.MIN_VALUE, 0), BAD);
    }

    private static void promise6Sees() {
        SeenCools x = Due.yard("wall 80 5;wall 0 9;wall 99 0;sees 0 1 3;sees 2 0 6;sees 1 0 1;");
        Due.due("sees(0, 1)", x.sees(0, 1), 4);
        Due.due("sees(1, 0)", x.sees(1, 0), 4);
        Due.due("sees(0, 2)", x.sees(0, 2), 6);
        Due.due("sees(2, 0)", x.sees(2, 0), 6);
        Due.due("sees(1, 2)", x.sees(1, 2), 0);
        Due.refused(x, "sees(0, 0)", () -> x.sees(0, 0), BAD);
        Due.refused(x, "sees(2, 2)", () -> x.sees(2, 2), BAD);
        Due.refused(x, "sees(0, 3)", () -> x.sees(0, 3), BAD);
        Due.refused(x, "sees(3, 0)", () -> x.sees(3, 0), BAD);
        Due.refused(x, "sees(-1, 0)", () -> x.sees(-1, 0), BAD);
        Due.refused(x, "sees(0, -1)", () -> x.sees(0, -1), BAD);
    }
}
