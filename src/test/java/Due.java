import java.util.function.LongSupplier;

/** What the tests share: texts typed into a yard, answers held against those that are due. */
final class Due {
    static int wrong = 0;
    static int asked = 0;

    private Due() {
    }

    static void due(String call, long got, long want) {
        asked++;
        if (got != want) {
            wrong++;
            System.out.println(call + " answered " + got + ", due is " + want);
        }
    }

    static void due(String what, String got, String want) {
        asked++;
        if (!got.equals(want)) {
            wrong++;
            System.out.println(what + " is " + got + ", due is " + want);
        }
    }

    /** A call that is refused: its answer, and that it left the object as it was, as far as few calls show it. */
    static void refused(SeenCools x, String call, LongSupplier asks, long want) {
        String before = sketch(x);
        due(call, asks.getAsLong(), want);
        due("the yard behind " + call, sketch(x), before);
    }

    /** Calls that ask only: that all stays as it was. */
    static void changesNothing(SeenCools x, String call, LongSupplier asks) {
        String before = picture(x);
        asks.getAsLong();
        due("the yard behind " + call, picture(x), before);
    }

    static void put(SeenCools x, String text) {
        for (int from = 0; from < text.length(); from += 8) {
            int n = Math.min(8, text.length() - from);
            long v = 0;
            for (int i = 0; i < n; i++) {
                v = v << 8 | text.charAt(from + i);
            }
            x.type(v, n);
        }
    }

    /** A text without a fault: so many ITEMS, and it is empty then. */
    static SeenCools reads(String text, int items) {
        SeenCools x = new SeenCools();
        put(x, text);
        due("walls() of \"" + text + "\"", x.walls(), items);
        due("count(6) behind \"" + text + "\"", x.count(6), 0);
        return x;
    }

    /** A text with a FAULT: the sign ^ stands ahead of the TOKEN at fault (it is not typed). */
    static void fault(String marked) {
        int place = marked.indexOf('^');
        String text = marked.substring(0, place) + marked.substring(place + 1);
        SeenCools x = new SeenCools();
        put(x, text);
        due("walls() of \"" + text + "\"", x.walls(), -10 - place);
        due("count(6) behind \"" + text + "\"", x.count(6), text.length());
        due("count(0) behind \"" + text + "\"", x.count(0), 0);
    }

    static SeenCools yard(String text) {
        SeenCools x = new SeenCools();
        put(x, text);
        int items = x.walls();
        if (items < 0) {
            due("walls() of " + text, items, 0);
        }
        return x;
    }

    static void hours(SeenCools x, int n) {
        for (int i = 0; i < n; i++) {
            x.hour();
        }
    }

    static String warmths(SeenCools x) {
        int walls = x.count(0);
        StringBuilder all = new StringBuilder();
        for (int w = 0; w < walls; w++) {
            all.append(w == 0 ? "" : " ").append(x.wall(w, 0));
        }
        return all.toString();
    }

    /** Of an object as many calls as can be made for each refused one; Shown tells all of it. */
    private static String sketch(SeenCools x) {
        StringBuilder all = new StringBuilder();
        for (int what = 0; what <= 6; what++) {
            all.append(x.count(what)).append(' ');
        }
        for (int what = 0; what <= 4; what++) {
            all.append(x.now(what)).append(' ');
        }
        return all.toString();
    }

    /** All that can be asked at little cost and changes nothing. */
    static String picture(SeenCools x) {
        int walls = x.count(0);
        StringBuilder all = new StringBuilder(sketch(x));
        for (int w = 0; w < walls; w++) {
            for (int what = 0; what <= 6; what++) {
                all.append(x.wall(w, what)).append(' ');
            }
            for (int v = 0; v < walls; v++) {
                all.append(x.sees(w, v)).append(' ');
            }
            all.append(x.behind(9, w)).append(' ');
        }
        return all.append(x.holes(-1)).append(' ').append(x.trace()).toString();
    }

    static void end(String test) {
        System.out.println(test + ": " + asked + " answers, " + wrong + " wrong");
        if (wrong != 0) {
            System.exit(1);
        }
    }
}
