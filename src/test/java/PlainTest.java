/**
 * Long mixed runs, 512 calls on each object, held call by call against Plain. The runs are the same each time: their
 * numbers come from a row of its own, not from a random source.
 */
final class PlainTest {
    private static final int OBJECTS = 500;
    private static final int CALLS = 512;
    private static long row;

    private static int some(int bound) {
        row = row * 6364136223846793005L + 1442695040888963407L;
        return (int) ((row >>> 33) % bound);
    }

    public static void main(String[] args) {
        for (int object = 1; object <= OBJECTS && Due.wrong == 0; object++) {
            row = object;
            run(object);
        }
        Due.end("PlainTest");
    }

    private static void run(int object) {
        SeenCools x = new SeenCools();
        Plain p = new Plain();
        int calls = 0;
        while (calls < CALLS && Due.wrong == 0) {
            String text = calls == 0 || some(60) == 0 ? text() : null;
            if (text != null && calls + text.length() + 2 <= CALLS) {
                calls += tell(x, p, text);
            } else {
                calls++;
                String call = ask(x, p);
                if (Due.wrong != 0) {
                    System.out.println("object " + object + ", call " + calls + ": " + call);
                }
            }
        }
    }

    private static int tell(SeenCools x, Plain p, String text) {
        int calls = 1;
        for (int from = 0; from < text.length(); calls++) {
            int n = Math.min(1 + some(8), text.length() - from);
            long v = some(3);
            for (int i = 0; i < n; i++) {
                v = v << 8 | text.charAt(from + i);
            }
            from += n;
            Due.due("type within \"" + text + "\"", x.type(v, n), p.type(v, n));
        }
        int due = p.walls();
        Due.due("walls() of \"" + text + "\"", x.walls(), due);
        if (due < 0) {
            Due.due("clear()", x.clear(), p.clear());
            calls++;
        }
        return calls;
    }

    private static String text() {
        StringBuilder t = new StringBuilder();
        int walls = some(4) == 0 ? some(8) : 1 + some(6);
        for (int w = 0; w < walls; w++) {
            t.append("wall ").append(some(100)).append(' ').append(some(10)).append(';');
            if (some(3) == 0) {
                blanks(t);
            }
        }
        int items = some(2 * walls + 1);
        for (int i = 0; i < items && t.length() < 220; i++) {
            item(t, Math.max(1, walls));
        }
        if (some(3) == 0) {
            spoil(t);
        }
        return t.toString();
    }

    private static void item(StringBuilder t, int walls) {
        int kind = some(8);
        if (kind < 4 && walls > 1) {
            int a = some(walls);
            int b = (a + 1 + some(walls - 1)) % walls;
            t.append("sees ").append(a).append(' ').append(b).append(' ').append(1 + some(4)).append(';');
        } else if (kind < 7) {
            t.append("work").append(some(walls)).append(' ').append(some(21)).append(' ').append(some(16));
            blanks(t.append(' '));
            t.append(some(16)).append(';');
        } else if (t.indexOf("limit") < 0) {
            t.append("limit ").append(some(2) == 0 ? some(20) : some(100)).append(';');
        }
    }

    private static void blanks(StringBuilder t) {
        for (int i = some(3); i > 0; i--) {
            t.append(' ');
        }
    }

    /** One sign is another one, or gone, or there is one more. */
    private static void spoil(StringBuilder t) {
        String signs = "0123456789 ;;wallseeskorimt@Z\u0000\u0080\u00ff\u0020{/:`";
        int at = some(t.length() + 1);
        char sign = signs.charAt(some(signs.length()));
        if (at == t.length() || some(3) == 0) {
            t.insert(at, sign);
        } else if (some(2) == 0) {
            t.setCharAt(at, sign);
        } else {
            t.deleteCharAt(at);
        }
        if (some(8) == 0) {
            t.setLength(some(t.length() + 1));
        }
    }

    /** A number that is mostly as it may be. */
    private static int near(int least, int most) {
        int sort = some(40);
        if (sort == 0) {
            return least - 1;
        }
        if (sort == 1) {
            return most + 1;
        }
        if (sort == 2) {
            return some(2) == 0 ? Integer.MIN_VALUE : Integer.MAX_VALUE;
        }
        return least + some(Math.max(1, most - least + 1));
    }

    private static String ask(SeenCools x, Plain p) {
        int last = Math.max(0, p.count(0) - 1);
        int w = near(0, last);
        int call = some(34);
        return call < 17 ? change(x, p, w, call) : foresee(x, p, w, call);
    }

    private static String two(String name, int a, int b) {
        return name + "(" + a + ", " + b + ")";
    }

    private static String change(SeenCools x, Plain p, int w, int call) {
        int is = near(0, 1);
        int image = near(0, 1);
        switch (call) {
            case 0: case 1: case 2: case 3: return due("hour()", x.hour(), p.hour());
            case 4: case 5: case 6: return due(two("shut", w, is), x.shut(w, is), p.shut(w, is));
            case 7: case 8: return due(two("mirror", w, is), x.mirror(w, is), p.mirror(w, is));
            case 9: return due("undo()", x.undo(), p.undo());
            case 10: case 11: return saw(x, p, w);
            case 12: return some(3) != 0 ? saw(x, p, w) : due("forget()", x.forget(), p.forget());
            case 13: return due("keep(" + image + ")", x.keep(image), p.keep(image));
            case 14: return due("back(" + image + ")", x.back(image), p.back(image));
            case 15: return due("trace()", x.trace(), p.trace());
            default: break;
        }
        int kind = near(0, 5);
        return due(two("mark", kind, w), x.mark(kind, w), p.mark(kind, w));
    }

    /** Mostly what may well have been, with one RATE another. */
    private static String saw(SeenCools x, Plain p, int w) {
        int n = some(3) == 0 ? near(0, 20) : some(4);
        int warmth = some(3) == 0 ? near(0, 9999) : likely(p, w, n);
        return due("saw(" + n + ", " + w + ", " + warmth + ")", x.saw(n, w, warmth), p.saw(n, w, warmth));
    }

    private static int likely(Plain p, int w, int n) {
        int was = p.wall(w, 0);
        return n == 0 || some(2) == 0 ? Math.max(0, was) : Math.max(0, was - was * some(10) / 10);
    }

    private static String foresee(SeenCools x, Plain p, int w, int call) {
        int what = near(0, 1);
        int n = near(0, 20);
        switch (call) {
            case 17: return due(two("coolest", n, what), x.coolest(n, what), p.coolest(n, what));
            case 18: return due(two("busy", w, what), x.busy(w, what), p.busy(w, what));
            case 19: return due("first(" + what + ")", x.first(what), p.first(what));
            case 20: return due("rest()", x.rest(), p.rest());
            case 21: case 22: return blanket(x, p, w, n);
            case 23: {
                int f = near(1, 50);
                int where = some(3) == 0 ? -1 : w;
                return due(two("harm", where, f), x.harm(where, f), p.harm(where, f));
            }
            case 24: case 25: {
                int which = some(3) == 0 ? -1 : w;
                return due("holes(" + which + ")", x.holes(which), p.holes(which));
            }
            case 26: case 27: {
                int hours = near(0, 50);
                return due(two("behind", hours, w), x.behind(hours, w), p.behind(hours, w));
            }
            default: return look(x, p, w, call);
        }
    }

    private static String blanket(SeenCools x, Plain p, int w, int n) {
        int v = some(2) == 0 ? near(0, 999) : near(0, 60);
        return due("blanket(" + w + ", " + v + ", " + n + ")", x.blanket(w, v, n), p.blanket(w, v, n));
    }

    private static String look(SeenCools x, Plain p, int w, int call) {
        int six = near(0, 6);
        int four = near(0, 4);
        int v = near(0, Math.max(0, p.count(0) - 1));
        switch (call) {
            case 28: case 29: return due(two("wall", w, six), x.wall(w, six), p.wall(w, six));
            case 30: return due(two("sees", w, v), x.sees(w, v), p.sees(w, v));
            case 31: return due("count(" + six + ")", x.count(six), p.count(six));
            default: return due("now(" + four + ")", x.now(four), p.now(four));
        }
    }

    private static String due(String call, long got, long want) {
        Due.due(call, got, want);
        return call;
    }
}
