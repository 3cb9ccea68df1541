import java.util.ArrayList;
import java.util.List;
import java.util.function.Supplier;
import java.util.function.ToLongFunction;

/**
 * Each number of each call beyond what it may be, on both sides and where a number comes round; the order BAD, STATE,
 * FULL; and that a refused call changes nothing that any other call shows.
 */
final class RefusedTest {
    private static final int BAD = -1, STATE = -2, FULL = -3, NO = -1000000;

    public static void main(String[] args) {
        type();
        typeFull();
        wallAndSees();
        shutAndMirror();
        shutAndMirrorState();
        undo();
        nowAndCount();
        behind();
        first();
        coolest();
        busy();
        blanket();
        harm();
        saw();
        sawFull();
        holes();
        mark();
        keepAndBack();
        backState();
        walls();
        hourState();
        Due.end("RefusedTest");
    }

    /** Numbers that are not least .. most: the next ones, the farthest, and those that come round in fewer bits. */
    private static int[] beyond(int least, int most) {
        long[] all = {least - 1L, most + 1L, least - 2L, most + 2L, Integer.MIN_VALUE, Integer.MIN_VALUE + 1L,
            Integer.MAX_VALUE, Integer.MAX_VALUE - 1L, least + 32L, most - 32L, least + 64L, least + 256L, most - 256L,
            least + 65536L, most - 65536L, least + (1L << 30), (long) Integer.MIN_VALUE + most};
        List<Integer> beyond = new ArrayList<>();
        for (long n : all) {
            if (n < least || n > most) {
                beyond.add((int) n);
            }
        }
        return beyond.stream().mapToInt(n -> n).toArray();
    }

    /** For a call that is refused whatever there is: it is, of a new object, a laden and a full one. */
    private static void always(String call, ToLongFunction<SeenCools> asks, long want) {
        Shown.refused(SeenCools::new, "new " + call, asks, want);
        Shown.refused(Laden::yard, "laden " + call, asks, want);
        Shown.refused(Laden::full, "full " + call, asks, want);
    }

    /** For a call of a WALL that there is none of: beyond three, beyond six, any of none. */
    private static void noWall(String call, Asked asks, long want) {
        for (int w : beyond(0, 2)) {
            Shown.refused(Laden::yard, "laden " + call + " of " + w, x -> asks.of(x, w), want);
        }
        for (int w : beyond(0, 5)) {
            Shown.refused(Laden::full, "full " + call + " of " + w, x -> asks.of(x, w), want);
        }
        for (int w = -1; w <= 6; w++) {
            int one = w;
            Shown.refused(SeenCools::new, "new " + call + " of " + w, x -> asks.of(x, one), want);
        }
    }

    /** The same for a call that asks of all WALLS by -1. */
    private static void noWallBut(String call, Asked asks, long want) {
        for (int w : beyond(-1, 2)) {
            Shown.refused(Laden::yard, "laden " + call + " of " + w, x -> asks.of(x, w), want);
        }
        for (int w : beyond(-1, 5)) {
            Shown.refused(Laden::full, "full " + call + " of " + w, x -> asks.of(x, w), want);
        }
        for (int w : beyond(-1, -1)) {
            Shown.refused(SeenCools::new, "new " + call + " of " + w, x -> asks.of(x, w), want);
        }
    }

    private interface Asked {
        long of(SeenCools x, int w);
    }

    private static void type() {
        for (int n : beyond(1, 8)) {
            always("type(-1, " + n + ")", x -> x.type(-1L, n), BAD);
        }
    }

    /** BAD is ahead of FULL: the full one above says BAD. */
    private static void typeFull() {
        for (int n = 1; n <= 8; n++) {
            int many = n;
            Shown.refused(Laden::full, "full type(-1, " + n + ")", x -> x.type(-1L, many), FULL);
            Supplier<SeenCools> almost = () -> {
                SeenCools x = Laden.yard();
                x.clear();
                Due.put(x, "wall 7 7;" + " ".repeat(242 - many));
                return x;
            };
            Due.due("count(6) of what is almost full", almost.get().count(6), 251 - n);
            Shown.refused(almost, "almost full type(-1, " + n + ")", x -> x.type(-1L, many), FULL);
        }
    }

    private static void wallAndSees() {
        noWall("wall", (x, w) -> x.wall(w, 0), BAD);
        noWall("sees a", (x, w) -> x.sees(w, 0), BAD);
        noWall("sees b", (x, w) -> x.sees(0, w), BAD);
        for (int what : beyond(0, 6)) {
            always("wall(0, " + what + ")", x -> x.wall(0, what), BAD);
        }
        for (int w = 0; w <= 6; w++) {
            int one = w;
            always("sees(" + w + ", the same)", x -> x.sees(one, one), BAD);
        }
    }

    private static void shutAndMirror() {
        for (int is = 0; is <= 1; is++) {
            int so = is;
            noWall("shut " + is, (x, w) -> x.shut(w, so), BAD);
            noWall("mirror " + is, (x, w) -> x.mirror(w, so), BAD);
        }
        for (int is : beyond(0, 1)) {
            for (int w = 0; w <= 2; w++) {
                int one = w;
                always("shut(" + w + ", " + is + ")", x -> x.shut(one, is), BAD);
                always("mirror(" + w + ", " + is + ")", x -> x.mirror(one, is), BAD);
            }
        }
    }

    private static void shutAndMirrorState() {
        for (int w = 0; w < 6; w++) {
            int one = w;
            Shown.refused(Laden::full, "shut(" + w + ", 1) of a SHUT one", x -> x.shut(one, 1), STATE);
            Shown.refused(Laden::full, "mirror(" + w + ", 1) of a MIRROR", x -> x.mirror(one, 1), STATE);
        }
        Shown.refused(Laden::yard, "shut(0, 1) of a SHUT one", x -> x.shut(0, 1), STATE);
        Shown.refused(Laden::yard, "shut(1, 0) of an OPEN one", x -> x.shut(1, 0), STATE);
        Shown.refused(Laden::yard, "shut(2, 0) of an OPENED one", x -> x.shut(2, 0), STATE);
        Shown.refused(Laden::yard, "mirror(0, 0) of none", x -> x.mirror(0, 0), STATE);
        Shown.refused(Laden::yard, "mirror(1, 0) of none any more", x -> x.mirror(1, 0), STATE);
        Shown.refused(Laden::yard, "mirror(2, 1) of a MIRROR", x -> x.mirror(2, 1), STATE);
    }

    private static void undo() {
        Shown.refused(SeenCools::new, "new undo()", SeenCools::undo, STATE);
        Supplier<SeenCools> undone = () -> {
            SeenCools x = Laden.yard();
            for (int i = 0; i < 6; i++) {
                x.undo();
            }
            return x;
        };
        Due.due("count(5) of what is UNDONE", undone.get().count(5), 0);
        Shown.refused(undone, "undo() behind all", SeenCools::undo, STATE);
    }

    private static void nowAndCount() {
        for (int what : beyond(0, 4)) {
            always("now(" + what + ")", x -> x.now(what), BAD);
        }
        for (int what : beyond(0, 6)) {
            always("count(" + what + ")", x -> x.count(what), BAD);
        }
    }

    private static void behind() {
        noWall("behind", (x, w) -> x.behind(0, w), BAD);
        for (int n : beyond(0, 50)) {
            always("behind(" + n + ", 0)", x -> x.behind(n, 0), BAD);
        }
    }

    private static void first() {
        for (int what : beyond(0, 1)) {
            always("first(" + what + ")", x -> x.first(what), BAD);
        }
    }

    private static void coolest() {
        for (int n : beyond(0, 20)) {
            always("coolest(" + n + ", 0)", x -> x.coolest(n, 0), BAD);
            always("coolest(" + n + ", 1)", x -> x.coolest(n, 1), BAD);
        }
        for (int what : beyond(0, 1)) {
            always("coolest(0, " + what + ")", x -> x.coolest(0, what), BAD);
        }
    }

    private static void busy() {
        noWall("busy", (x, w) -> x.busy(w, 1), BAD);
        for (int what : beyond(0, 1)) {
            always("busy(0, " + what + ")", x -> x.busy(0, what), BAD);
        }
    }

    private static void blanket() {
        noWall("blanket", (x, w) -> x.blanket(w, 0, 0), BAD);
        for (int v : beyond(0, 999)) {
            always("blanket(0, " + v + ", 0)", x -> x.blanket(0, v, 0), BAD);
        }
        for (int n : beyond(0, 20)) {
            always("blanket(0, 0, " + n + ")", x -> x.blanket(0, 0, n), BAD);
        }
    }

    private static void harm() {
        noWallBut("harm", (x, w) -> x.harm(w, 1), NO);
        for (int f : beyond(1, 50)) {
            always("harm(0, " + f + ")", x -> x.harm(0, f), NO);
            always("harm(-1, " + f + ")", x -> x.harm(-1, f), NO);
        }
    }

    private static void saw() {
        noWall("saw", (x, w) -> x.saw(0, w, 0), BAD);
        for (int n : beyond(0, 20)) {
            always("saw(" + n + ", 0, 0)", x -> x.saw(n, 0, 0), BAD);
        }
        for (int warmth : beyond(0, 9999)) {
            always("saw(0, 0, " + warmth + ")", x -> x.saw(0, 0, warmth), BAD);
        }
    }

    /** BAD is ahead of FULL: the full one above says BAD. */
    private static void sawFull() {
        Shown.refused(Laden::full, "saw(0, 0, 0) of a ninth", x -> x.saw(0, 0, 0), FULL);
        Shown.refused(Laden::full, "saw(20, 5, 9999) of a ninth", x -> x.saw(20, 5, 9999), FULL);
    }

    private static void holes() {
        noWallBut("holes", (x, w) -> x.holes(w), BAD);
    }

    private static void mark() {
        for (int kind = 0; kind <= 5; kind++) {
            int one = kind;
            noWall("mark of " + kind, (x, w) -> x.mark(one, w), NO);
        }
        for (int kind : beyond(0, 5)) {
            always("mark(" + kind + ", 0)", x -> x.mark(kind, 0), NO);
        }
    }

    private static void keepAndBack() {
        for (int image : beyond(0, 1)) {
            always("keep(" + image + ")", x -> x.keep(image), BAD);
            always("back(" + image + ")", x -> x.back(image), BAD);
        }
    }

    private static void backState() {
        Shown.refused(SeenCools::new, "new back(0)", x -> x.back(0), STATE);
        Shown.refused(SeenCools::new, "new back(1)", x -> x.back(1), STATE);
        for (int image = 0; image <= 1; image++) {
            int other = 1 - image;
            Supplier<SeenCools> one = () -> {
                SeenCools x = Due.yard("wall 80 5;wall 20 2;");
                x.shut(1, 1);
                x.keep(other);
                x.hour();
                return x;
            };
            Shown.refused(one, "back() of the one not kept", x -> x.back(1 - other), STATE);
        }
    }

    private static void walls() {
        Supplier<SeenCools> faulty = () -> {
            SeenCools x = Laden.yard();
            Due.put(x, "limit 9;work 1 7 3 16;");
            return x;
        };
        Shown.refused(faulty, "walls() of what has a FAULT", SeenCools::walls, -10 - 29 - 8 - 11);
    }

    /** No run of 512 calls comes so far: what is answered here is free. */
    private static void hourState() {
        Supplier<SeenCools> last = () -> {
            SeenCools x = Due.yard("wall 80 5;wall 20 2;sees 0 1 3;work 0 9 15 15;");
            Due.hours(x, 999);
            return x;
        };
        Shown.refused(last, "hour() at 999", SeenCools::hour, STATE);
    }
}
