import java.util.function.Supplier;
import java.util.function.ToLongFunction;

/** All that an object shows, also by calls that change it: for what a call must not change. */
final class Shown {
    private Shown() {
    }

    /** Two objects are made alike, one is asked, and then both answer all other calls alike. */
    static void stays(Supplier<SeenCools> made, String call, ToLongFunction<SeenCools> asks) {
        SeenCools asked = made.get();
        asks.applyAsLong(asked);
        Due.due("all behind " + call, all(asked), all(made.get()));
    }

    /** A call that is refused: its answer, and that it changes nothing that any other call shows. */
    static void refused(Supplier<SeenCools> made, String call, ToLongFunction<SeenCools> asks, long want) {
        Due.due(call, asks.applyAsLong(made.get()), want);
        stays(made, call, asks);
    }

    /** Fewer than 450 calls, even if there are six WALLS: 512 are promised. The object is another one behind them. */
    static String all(SeenCools x) {
        StringBuilder all = new StringBuilder();
        yard(x, all);
        ahead(x, all);
        undone(x, all);
        for (int image = 1; image >= 0; image--) {
            all.append("\nback ").append(x.back(image));
            present(x, all);
            undone(x, all);
        }
        all.append("\nwalls ").append(x.walls());
        yard(x, all);
        return all.append("\nclear ").append(x.clear()).toString();
    }

    private static void yard(SeenCools x, StringBuilder all) {
        int walls = x.count(0);
        all.append("\nyard");
        for (int what = 0; what <= 6; what++) {
            all.append(' ').append(x.count(what));
        }
        for (int w = 0; w < walls; w++) {
            for (int what = 1; what <= 4; what++) {
                all.append(' ').append(x.wall(w, what));
            }
            for (int v = 0; v < w; v++) {
                all.append(' ').append(x.sees(w, v));
            }
        }
        all.append(' ').append(x.trace());
        present(x, all);
    }

    private static void present(SeenCools x, StringBuilder all) {
        int walls = x.count(0);
        all.append("\nnow");
        for (int what = 0; what <= 4; what++) {
            all.append(' ').append(x.now(what));
        }
        for (int w = 0; w < walls; w++) {
            all.append(' ').append(x.wall(w, 0)).append(' ').append(x.wall(w, 5)).append(' ').append(x.wall(w, 6));
        }
    }

    private static void ahead(SeenCools x, StringBuilder all) {
        int walls = x.count(0);
        all.append("\nahead ").append(x.first(0)).append(' ').append(x.first(1)).append(' ').append(x.rest());
        all.append(' ').append(x.coolest(7, 0)).append(' ').append(x.coolest(7, 1));
        all.append(' ').append(x.harm(-1, 9)).append(' ').append(x.holes(-1));
        for (int w = 0; w < walls; w++) {
            all.append("\nof ").append(w).append(": ").append(x.behind(5, w)).append(' ').append(x.busy(w, 1));
            all.append(' ').append(x.blanket(w, 30, 3)).append(' ').append(x.harm(w, 9)).append(' ').append(x.holes(w));
        }
    }

    /** More rounds than can be UNDONE: the last one shows that there is no more. */
    private static void undone(SeenCools x, StringBuilder all) {
        for (int i = 0; i <= 10; i++) {
            all.append("\nundo ").append(x.undo()).append(' ').append(x.count(2)).append(' ').append(x.count(3));
            if (i % 3 == 1) {
                sets(x, all);
            }
        }
    }

    private static void sets(SeenCools x, StringBuilder all) {
        int walls = x.count(0);
        for (int w = 0; w < walls; w++) {
            all.append(' ').append(x.wall(w, 5)).append(x.wall(w, 6));
        }
    }
}
