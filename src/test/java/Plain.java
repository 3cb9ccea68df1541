import java.util.ArrayDeque;
import java.util.ArrayList;
import java.util.Deque;
import java.util.List;
import java.util.TreeSet;
import java.util.regex.Matcher;
import java.util.regex.Pattern;

/** The document once more, written for the tests alone, in another way: nothing is used again, all is tried. */
final class Plain {
    private static final int BAD = -1, STATE = -2, FULL = -3, NONE = -9, NO = -1000000;
    private static final Pattern TOKEN = Pattern.compile("[a-z]+|[0-9]+|;|[^ ]");

    private static final class Wall {
        int warmth, rate, work, hours;
        final int[] parts = new int[6];

        Wall copy() {
            Wall w = new Wall();
            w.warmth = warmth;
            w.rate = rate;
            w.work = work;
            w.hours = hours;
            System.arraycopy(parts, 0, w.parts, 0, 6);
            return w;
        }

        int dark() {
            int left = 10;
            for (int p : parts) {
                left -= p;
            }
            return left;
        }
    }

    private static final class Stand {
        int[] warmths = {};
        int hour, given, lastDark;
        TreeSet<Integer> shut = new TreeSet<>(), mirrors = new TreeSet<>();
        Deque<int[]> changes = new ArrayDeque<>();

        Stand copy() {
            Stand s = new Stand();
            s.warmths = warmths.clone();
            s.hour = hour;
            s.given = given;
            s.shut = new TreeSet<>(shut);
            s.mirrors = new TreeSet<>(mirrors);
            s.changes = new ArrayDeque<>(changes);
            return s;
        }
    }

    private StringBuilder text = new StringBuilder();
    private List<Wall> walls = new ArrayList<>();
    private int limit = 99;
    private Stand stand = new Stand();
    private List<int[]> seen = new ArrayList<>();
    private Stand[] images = new Stand[2];
    private long trace;

    private boolean is(int w) {
        return 0 <= w && w < walls.size();
    }

    private static int bits(TreeSet<Integer> set) {
        int b = 0;
        for (int w : set) {
            b += 1 << w;
        }
        return b;
    }

    private static TreeSet<Integer> set(int bits) {
        TreeSet<Integer> s = new TreeSet<>();
        for (int w = 0; w < 8; w++) {
            if ((bits & 1 << w) != 0) {
                s.add(w);
            }
        }
        return s;
    }

    int type(long v, int n) {
        if (n < 1 || n > 8) {
            return BAD;
        }
        if (text.length() + n > 250) {
            return FULL;
        }
        for (int i = n - 1; i >= 0; i--) {
            text.append((char) (v >> 8 * i & 255));
        }
        return text.length();
    }

    int clear() {
        int had = text.length();
        text = new StringBuilder();
        return had;
    }

    int walls() {
        List<String> tokens = new ArrayList<>();
        List<Integer> places = new ArrayList<>();
        Matcher m = TOKEN.matcher(text);
        while (m.find()) {
            tokens.add(m.group());
            places.add(m.start());
        }
        places.add(text.length());
        tokens.add("");
        List<Wall> draft = new ArrayList<>();
        int draftLimit = -1;
        int items = 0;
        int i = 0;
        while (i < tokens.size() - 1) {
            String word = tokens.get(i);
            boolean fits = word.equals("wall") && draft.size() < 6 || word.equals("sees") || word.equals("work")
                || word.equals("limit") && draftLimit < 0;
            if (!fits) {
                return -10 - places.get(i);
            }
            int many = word.equals("wall") ? 2 : word.equals("sees") ? 3 : word.equals("work") ? 4 : 1;
            int[] n = new int[many];
            for (int k = 0; k < many; k++) {
                int most = most(word, k, n, draft);
                int least = word.equals("sees") && k == 2 ? 1 : 0;
                String t = tokens.get(i + 1 + k);
                if (!t.matches("0|[1-9][0-9]?") || Integer.parseInt(t) > most || Integer.parseInt(t) < least) {
                    return -10 - places.get(i + 1 + k);
                }
                n[k] = Integer.parseInt(t);
                if (word.equals("sees") && k == 1 && n[1] == n[0]) {
                    return -10 - places.get(i + 1 + k);
                }
            }
            i += many + 1;
            if (!tokens.get(i).equals(";")) {
                return -10 - places.get(i);
            }
            i++;
            items++;
            switch (word) {
                case "wall" -> {
                    Wall w = new Wall();
                    w.warmth = n[0];
                    w.rate = n[1];
                    draft.add(w);
                }
                case "sees" -> {
                    draft.get(n[0]).parts[n[1]] += n[2];
                    draft.get(n[1]).parts[n[0]] += n[2];
                }
                case "work" -> {
                    draft.get(n[0]).work = n[1];
                    draft.get(n[0]).hours = n[2] + 16 * n[3];
                }
                default -> draftLimit = n[0];
            }
        }
        walls = draft;
        limit = draftLimit < 0 ? 99 : 10 * draftLimit + 9;
        stand = beginning(walls);
        seen = new ArrayList<>();
        images = new Stand[2];
        text = new StringBuilder();
        return items;
    }

    private static int most(String word, int k, int[] n, List<Wall> draft) {
        switch (word) {
            case "wall": return k == 0 ? 99 : 9;
            case "limit": return 99;
            case "work": return k == 0 ? draft.size() - 1 : k == 1 ? 20 : 15;
            default: return k < 2 ? draft.size() - 1 : Math.min(draft.get(n[0]).dark(), draft.get(n[1]).dark());
        }
    }

    private static Stand beginning(List<Wall> told) {
        Stand s = new Stand();
        s.warmths = new int[told.size()];
        for (int w = 0; w < told.size(); w++) {
            s.warmths[w] = told.get(w).warmth;
        }
        return s;
    }

    private static Stand next(List<Wall> told, Stand s) {
        Stand t = s.copy();
        t.hour++;
        t.lastDark = 0;
        for (int w = 0; w < told.size(); w++) {
            Wall wall = told.get(w);
            if ((wall.hours & 1 << s.hour % 8) != 0) {
                t.warmths[w] += wall.work;
            }
            if (s.shut.contains(w)) {
                continue;
            }
            int gives = s.warmths[w] * wall.rate / 10;
            int had = 0;
            for (int v = 0; v < told.size(); v++) {
                int has = gives * wall.parts[v] / 10;
                if (s.mirrors.contains(v)) {
                    t.warmths[w] += has;
                    had += has;
                } else if (!s.shut.contains(v)) {
                    t.warmths[v] += has;
                    had += has;
                }
            }
            t.warmths[w] -= gives;
            t.lastDark += gives - had;
        }
        t.given += t.lastDark;
        return t;
    }

    private static Stand after(List<Wall> told, Stand s, int n) {
        return n == 0 ? s : after(told, next(told, s), n - 1);
    }

    int wall(int w, int what) {
        if (!is(w) || what < 0 || what > 6) {
            return BAD;
        }
        Wall wall = walls.get(w);
        int[] all = {stand.warmths[w], wall.rate, wall.work, wall.hours, wall.dark(),
            stand.shut.contains(w) ? 1 : 0, stand.mirrors.contains(w) ? 1 : 0};
        return all[what];
    }

    int sees(int a, int b) {
        return !is(a) || !is(b) || a == b ? BAD : walls.get(a).parts[b];
    }

    int hour() {
        if (stand.hour == 999) {
            return STATE;
        }
        stand = next(walls, stand);
        return stand.lastDark;
    }

    private int turned(TreeSet<Integer> set, int which, int w, int is) {
        if (!is(w) || is < 0 || is > 1) {
            return BAD;
        }
        if (set.contains(w) == (is == 1)) {
            return STATE;
        }
        put(set, w, is == 1);
        stand.changes.addLast(new int[] {which, w, 1 - is});
        if (stand.changes.size() > 10) {
            stand.changes.removeFirst();
        }
        return set.size();
    }

    private static void put(TreeSet<Integer> set, int w, boolean in) {
        if (in) {
            set.add(w);
        } else {
            set.remove(w);
        }
    }

    int shut(int w, int is) {
        return turned(stand.shut, 0, w, is);
    }

    int mirror(int w, int is) {
        return turned(stand.mirrors, 1, w, is);
    }

    int undo() {
        if (stand.changes.isEmpty()) {
            return STATE;
        }
        int[] c = stand.changes.removeLast();
        put(c[0] == 0 ? stand.shut : stand.mirrors, c[1], c[2] == 1);
        return stand.changes.size();
    }

    private int sum(Stand s) {
        int sum = 0;
        for (int w : s.warmths) {
            sum += w;
        }
        return sum;
    }

    private TreeSet<Integer> hot(Stand s) {
        TreeSet<Integer> hot = new TreeSet<>();
        for (int w = 0; w < s.warmths.length; w++) {
            if (s.warmths[w] > limit) {
                hot.add(w);
            }
        }
        return hot;
    }

    private static int top(Stand s) {
        int top = -1;
        for (int w : s.warmths) {
            top = Math.max(top, w);
        }
        return top;
    }

    int now(int what) {
        switch (what) {
            case 0: return stand.hour;
            case 1: return sum(stand);
            case 2: return stand.given;
            case 3: return bits(hot(stand));
            case 4: break;
            default: return BAD;
        }
        for (int w = 0; w < walls.size(); w++) {
            if (stand.warmths[w] == top(stand)) {
                return w;
            }
        }
        return NONE;
    }

    int behind(int n, int w) {
        return n < 0 || n > 50 || !is(w) ? BAD : after(walls, stand, n).warmths[w];
    }

    int first(int what) {
        if (what != 0 && what != 1) {
            return BAD;
        }
        for (int n = 0; n <= 50; n++) {
            TreeSet<Integer> hot = hot(after(walls, stand, n));
            if (!hot.isEmpty()) {
                return what == 0 ? n : hot.first();
            }
        }
        return NONE;
    }

    int rest() {
        List<Stand> all = new ArrayList<>();
        all.add(stand);
        while (all.size() <= 208) {
            all.add(next(walls, all.get(all.size() - 1)));
        }
        for (int n = 0; n <= 200; n++) {
            if (java.util.Arrays.equals(all.get(n).warmths, all.get(n + 8).warmths)) {
                return n;
            }
        }
        return NONE;
    }

    int coolest(int n, int what) {
        if (n < 0 || n > 20 || what < 0 || what > 1) {
            return BAD;
        }
        int best = Integer.MAX_VALUE;
        int least = NONE;
        for (int set = (1 << walls.size()) - 1; set >= 0 && !walls.isEmpty(); set--) {
            Stand s = stand.copy();
            s.shut = set(set);
            int warm = top(after(walls, s, n));
            if (warm <= best) {
                best = warm;
                least = set;
            }
        }
        return walls.isEmpty() ? NONE : what == 0 ? best : least;
    }

    private List<Wall> copies() {
        List<Wall> all = new ArrayList<>();
        for (Wall w : walls) {
            all.add(w.copy());
        }
        return all;
    }

    int busy(int w, int what) {
        if (!is(w) || what < 0 || what > 1) {
            return BAD;
        }
        int best = -1;
        int least = NONE;
        for (int hours = 0; hours < 256; hours++) {
            List<Wall> other = copies();
            other.get(w).hours = hours;
            boolean cool = true;
            Stand s = stand;
            for (int n = 1; n <= 16; n++) {
                s = next(other, s);
                cool &= hot(s).isEmpty();
            }
            if (cool && set(hours).size() > best) {
                best = set(hours).size();
                least = hours;
            }
        }
        return best < 0 ? NONE : what == 0 ? best : least;
    }

    int blanket(int w, int v, int n) {
        if (!is(w) || v < 0 || v > 999 || n < 0 || n > 20) {
            return BAD;
        }
        int best = 99;
        int least = NONE;
        for (int bits = 0; bits < 1 << walls.size(); bits++) {
            TreeSet<Integer> set = set(bits);
            TreeSet<Integer> both = new TreeSet<>(set);
            both.retainAll(stand.mirrors);
            if (set.contains(w) || !both.isEmpty() || set.size() >= best) {
                continue;
            }
            Stand s = stand.copy();
            s.mirrors.addAll(set);
            if (after(walls, s, n).warmths[w] >= v) {
                best = set.size();
                least = bits;
            }
        }
        return least;
    }

    int harm(int w, int f) {
        if (w < -1 || w >= walls.size() || f < 1 || f > 50) {
            return NO;
        }
        if (w >= 0) {
            Stand s = stand;
            for (int n = 0; n < 8; n++) {
                s = next(walls, s);
                s.warmths[w] += f;
            }
            return sum(s) - sum(after(walls, stand, 8));
        }
        int least = NONE;
        for (int i = walls.size() - 1; i >= 0; i--) {
            if (least == NONE || harm(i, f) <= harm(least, f)) {
                least = i;
            }
        }
        return least;
    }

    int saw(int n, int w, int warmth) {
        if (n < 0 || n > 20 || !is(w) || warmth < 0 || warmth > 9999) {
            return BAD;
        }
        if (seen.size() == 8) {
            return FULL;
        }
        seen.add(new int[] {n, w, warmth});
        return seen.size();
    }

    int forget() {
        int had = seen.size();
        seen.clear();
        return had;
    }

    private boolean so(List<Wall> told) {
        for (int[] one : seen) {
            if (after(told, beginning(told), one[0]).warmths[one[1]] != one[2]) {
                return false;
            }
        }
        return true;
    }

    int holes(int w) {
        if (w < -1 || w >= walls.size()) {
            return BAD;
        }
        if (w >= 0) {
            for (int rate = 0; rate <= 9; rate++) {
                List<Wall> other = copies();
                other.get(w).rate = rate;
                if (rate != walls.get(w).rate && so(other)) {
                    return rate;
                }
            }
            return NONE;
        }
        int bits = so(walls) ? 64 : 0;
        for (int i = 0; i < walls.size(); i++) {
            bits += holes(i) == NONE ? 0 : 1 << i;
        }
        return bits;
    }

    private abstract class Kind {
        abstract int mark(int w);
    }

    private class WallKind extends Kind {
        int mark(int w) {
            trace += 1;
            return stand.warmths[w];
        }
    }

    private class Fin extends WallKind {
        int mark(int w) {
            trace += 10;
            return super.mark(w) + walls.get(w).rate;
        }
    }

    private class Brick extends WallKind {
        int mark(int w) {
            trace += 100;
            return super.mark(w) - walls.get(w).dark();
        }
    }

    private class Furnace extends Fin {
        int mark(int w) {
            trace += 1000;
            return super.mark(w) * 2;
        }
    }

    private class Window extends Brick {
        int mark(int w) {
            trace += 10000;
            return super.mark(w) + w;
        }
    }

    private class Hull extends WallKind {
        int mark(int w) {
            trace += 100000;
            return super.mark(w) + stand.hour;
        }
    }

    int mark(int kind, int w) {
        Kind[] kinds = {new WallKind(), new Fin(), new Brick(), new Furnace(), new Window(), new Hull()};
        return kind < 0 || kind > 5 || !is(w) ? NO : kinds[kind].mark(w);
    }

    int keep(int image) {
        if (image != 0 && image != 1) {
            return BAD;
        }
        images[image] = stand.copy();
        return stand.hour;
    }

    int back(int image) {
        if (image != 0 && image != 1) {
            return BAD;
        }
        if (images[image] == null) {
            return STATE;
        }
        stand = images[image].copy();
        return stand.hour;
    }

    int count(int what) {
        int[] all = {walls.size(), limit, stand.shut.size(), stand.mirrors.size(), seen.size(),
            stand.changes.size(), text.length()};
        return what < 0 || what > 6 ? BAD : all[what];
    }

    long trace() {
        return trace;
    }
}
