import java.util.function.Supplier;
import java.util.function.ToLongFunction;

/** "(From NOW on; nothing is changed.)": questions, at the last numbers that they allow, change nothing that shows. */
final class QuestionsTest {
    public static void main(String[] args) {
        ofAnyYard("new", SeenCools::new);
        ofAnyYard("laden", Laden::yard);
        ofAnyYard("full", Laden::full);
        for (int w = 0; w < 3; w++) {
            ofWall("laden", Laden::yard, w);
        }
        ofWall("full", Laden::full, 0);
        ofWall("full", Laden::full, 5);
        Due.end("QuestionsTest");
    }

    private static void ofAnyYard(String which, Supplier<SeenCools> made) {
        for (int n = 0; n <= 6; n++) {
            int what = n;
            Shown.stays(made, which + " count(" + n + ")", x -> x.count(what));
            Shown.stays(made, which + " now(" + n + ")", x -> x.now(what));
        }
        for (int n = 0; n <= 1; n++) {
            int what = n;
            Shown.stays(made, which + " first(" + n + ")", x -> x.first(what));
            Shown.stays(made, which + " coolest(0, " + n + ")", x -> x.coolest(0, what));
            Shown.stays(made, which + " coolest(20, " + n + ")", x -> x.coolest(20, what));
        }
        Shown.stays(made, which + " rest()", SeenCools::rest);
        Shown.stays(made, which + " harm(-1, 1)", x -> x.harm(-1, 1));
        Shown.stays(made, which + " harm(-1, 50)", x -> x.harm(-1, 50));
        Shown.stays(made, which + " holes(-1)", x -> x.holes(-1));
        Shown.stays(made, which + " trace()", SeenCools::trace);
    }

    private static void ofWall(String which, Supplier<SeenCools> made, int w) {
        for (int n = 0; n <= 6; n++) {
            int what = n;
            asked(made, which + " wall(" + w + ", " + n + ")", x -> x.wall(w, what));
            asked(made, which + " sees(" + w + ", " + n + ")", x -> x.sees(w, what));
        }
        asked(made, which + " behind(0, " + w + ")", x -> x.behind(0, w));
        asked(made, which + " behind(50, " + w + ")", x -> x.behind(50, w));
        asked(made, which + " busy(" + w + ", 0)", x -> x.busy(w, 0));
        asked(made, which + " busy(" + w + ", 1)", x -> x.busy(w, 1));
        asked(made, which + " blanket(" + w + ", 0, 0)", x -> x.blanket(w, 0, 0));
        asked(made, which + " blanket(" + w + ", 999, 20)", x -> x.blanket(w, 999, 20));
        asked(made, which + " harm(" + w + ", 1)", x -> x.harm(w, 1));
        asked(made, which + " harm(" + w + ", 50)", x -> x.harm(w, 50));
        asked(made, which + " holes(" + w + ")", x -> x.holes(w));
    }

    /** Asked twice it answers the same, and all other calls answer as if it had not been asked. */
    private static void asked(Supplier<SeenCools> made, String call, ToLongFunction<SeenCools> asks) {
        SeenCools x = made.get();
        long answer = asks.applyAsLong(x);
        Due.due(call + " again", asks.applyAsLong(x), answer);
        Shown.stays(made, call, asks);
    }
}
