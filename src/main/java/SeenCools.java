/** Walls where there is no air: they cool by what they give off to what they see, and to the dark. */
public final class SeenCools {
    public static final int BAD = -1, STATE = -2, FULL = -3, NONE = -9;
    public static final int NO = -1000000;

    private static final int MOST_WALLS = 6;
    private static final int MOST_PARTS = 10;
    private static final int MOST_RATE = 9;
    private static final int MOST_WORK = 20;
    private static final int MOST_HOURS = 999;
    private static final int HOURS_OF_A_ROUND = 8;
    private static final int ALL_HOURS = 255;
    private static final int MOST_CHANGES = 10;
    private static final int MOST_SIGHTS = 8;
    private static final int MOST_SEEN_WARMTH = 9999;
    private static final int IMAGES = 2;
    private static final int AS_TOLD = 1 << MOST_WALLS;

    private static final int FAR = 50;
    private static final int NEAR = 20;
    private static final int FAR_TO_REST = 200;
    private static final int FAR_OF_BUSY = 16;
    private static final int FAR_OF_HARM = 8;
    private static final int MOST_FURNACE = 50;
    private static final int MOST_BLANKET = 999;

    private static final int WALL = 0, FIN = 1, BRICK = 2, FURNACE = 3, WINDOW = 4, HULL = 5;

    private final Text text = new Text();
    private final Reader reader = new Reader();
    private final Present present = new Present();
    private final Sights sights = new Sights();
    private final Ahead ahead = new Ahead();
    private final Present[] images = new Present[IMAGES];
    private Yard told = new Yard();
    // A text with a FAULT changes nothing: it is read into this one, and the two change places if all is well.
    private Yard draft = new Yard();
    private int imagesKept;
    private long theTrace;

    public SeenCools() {
        for (int image = 0; image < IMAGES; image++) {
            images[image] = new Present();
        }
    }

    // ---- the yard

    public int type(long v, int n) {
        if (n < 1 || n > 8) {
            return BAD;
        }
        if (!text.hasRoomFor(n)) {
            return FULL;
        }
        text.append(v, n);
        return text.length;
    }

    public int clear() {
        int had = text.length;
        text.length = 0;
        return had;
    }

    public int walls() {
        int items = reader.readInto(draft, text);
        if (items < 0) {
            return items;
        }
        Yard before = told;
        told = draft;
        draft = before;
        text.length = 0;
        present.begin(told);
        sights.number = 0;
        imagesKept = 0;
        return items;
    }

    public int wall(int w, int what) {
        if (!isWall(w)) {
            return BAD;
        }
        switch (what) {
            case 0: return present.warmth[w];
            case 1: return told.rate[w];
            case 2: return told.work[w];
            case 3: return told.hours[w];
            case 4: return told.dark(w);
            case 5: return bit(present.shutOnes, w);
            case 6: return bit(present.mirrors, w);
            default: return BAD;
        }
    }

    public int sees(int a, int b) {
        if (!isWall(a) || !isWall(b) || a == b) {
            return BAD;
        }
        return told.parts[a * MOST_WALLS + b];
    }

    // ---- hours

    public int hour() {
        if (present.hours >= MOST_HOURS) {
            return STATE;
        }
        return present.goBy(told);
    }

    public int shut(int w, int is) {
        if (!isWall(w) || !isBit(is)) {
            return BAD;
        }
        if (bit(present.shutOnes, w) == is) {
            return STATE;
        }
        present.change(w);
        return Integer.bitCount(present.shutOnes);
    }

    public int mirror(int w, int is) {
        if (!isWall(w) || !isBit(is)) {
            return BAD;
        }
        if (bit(present.mirrors, w) == is) {
            return STATE;
        }
        present.change(MOST_WALLS + w);
        return Integer.bitCount(present.mirrors);
    }

    public int undo() {
        if (present.changesKnown <= 0) {
            return STATE;
        }
        present.changeBack();
        return present.changesKnown;
    }

    public int now(int what) {
        switch (what) {
            case 0: return present.hours;
            case 1: return present.warmthOfAll(told.number);
            case 2: return present.givenToDark;
            case 3: return present.tooWarm(told);
            case 4: return present.warmest(told.number);
            default: return BAD;
        }
    }

    // ---- what comes

    public int behind(int n, int w) {
        if (!isWithin(n, FAR) || !isWall(w)) {
            return BAD;
        }
        ahead.setOut(present);
        ahead.goOn(told, n);
        return ahead.then.warmth[w];
    }

    public int first(int what) {
        if (!isBit(what)) {
            return BAD;
        }
        ahead.setOut(present);
        for (int n = 0; n <= FAR; n++) {
            int tooWarm = ahead.then.tooWarm(told);
            if (tooWarm != 0) {
                return what == 0 ? n : leastOf(tooWarm);
            }
            ahead.goOn(told, 1);
        }
        return NONE;
    }

    public int rest() {
        ahead.setOut(present);
        return ahead.hoursToRest(told);
    }

    public int coolest(int n, int what) {
        if (!isWithin(n, NEAR) || !isBit(what)) {
            return BAD;
        }
        if (told.number == 0) {
            return NONE;
        }
        int least = 0;
        int set = NONE;
        for (int some = 0; some < 1 << told.number; some++) {
            int warmth = ahead.warmestIfShut(present, told, some, n);
            if (set == NONE || warmth < least) {
                least = warmth;
                set = some;
            }
        }
        return what == 0 ? least : set;
    }

    public int busy(int w, int what) {
        if (!isWall(w) || !isBit(what)) {
            return BAD;
        }
        ahead.asIf.copy(told);
        for (int most = HOURS_OF_A_ROUND; most >= 0; most--) {
            int hours = busyHours(w, most);
            if (hours != NONE) {
                return what == 0 ? most : hours;
            }
        }
        return NONE;
    }

    public int blanket(int w, int v, int n) {
        if (!isWall(w) || !isWithin(v, MOST_BLANKET) || !isWithin(n, NEAR)) {
            return BAD;
        }
        for (int fewest = 0; fewest < told.number; fewest++) {
            int set = blanketOf(w, v, n, fewest);
            if (set != NONE) {
                return set;
            }
        }
        return NONE;
    }

    public int harm(int w, int f) {
        if (w != -1 && !isWall(w) || f < 1 || f > MOST_FURNACE) {
            return NO;
        }
        return w == -1 ? leastHarmed(f) : harmDone(w, f);
    }

    // ---- what was seen

    public int saw(int n, int w, int warmth) {
        if (!isWithin(n, NEAR) || !isWall(w) || !isWithin(warmth, MOST_SEEN_WARMTH)) {
            return BAD;
        }
        if (sights.number >= MOST_SIGHTS) {
            return FULL;
        }
        sights.add(n, w, warmth);
        return sights.number;
    }

    public int forget() {
        int had = sights.number;
        sights.number = 0;
        return had;
    }

    public int holes(int w) {
        if (w != -1 && !isWall(w)) {
            return BAD;
        }
        ahead.asIf.copy(told);
        return w == -1 ? holesOfAll() : holeRate(w);
    }

    // ---- kinds, images

    public int mark(int kind, int w) {
        if (!isWall(w)) {
            return NO;
        }
        switch (kind) {
            case WALL: return markOfWall(w);
            case FIN: return markOfFin(w);
            case BRICK: return markOfBrick(w);
            case FURNACE: return markOfFurnace(w);
            case WINDOW: return markOfWindow(w);
            case HULL: return markOfHull(w);
            default: return NO;
        }
    }

    public int keep(int image) {
        if (!isImage(image)) {
            return BAD;
        }
        images[image].copyWithChanges(present);
        imagesKept |= 1 << image;
        return present.hours;
    }

    public int back(int image) {
        if (!isImage(image)) {
            return BAD;
        }
        if (bit(imagesKept, image) == 0) {
            return STATE;
        }
        present.copyWithChanges(images[image]);
        return present.hours;
    }

    public int count(int what) {
        switch (what) {
            case 0: return told.number;
            case 1: return told.limit;
            case 2: return Integer.bitCount(present.shutOnes);
            case 3: return Integer.bitCount(present.mirrors);
            case 4: return sights.number;
            case 5: return present.changesKnown;
            case 6: return text.length;
            default: return BAD;
        }
    }

    public long trace() {
        return theTrace;
    }

    // ---- what a number may be

    private boolean isWall(int w) {
        return w >= 0 && w < told.number;
    }

    private static boolean isImage(int image) {
        return image >= 0 && image < IMAGES;
    }

    private static boolean isBit(int is) {
        return is == 0 || is == 1;
    }

    private static boolean isWithin(int n, int most) {
        return n >= 0 && n <= most;
    }

    private static int bit(int bits, int place) {
        return bits >> place & 1;
    }

    private static int leastOf(int bits) {
        for (int w = 0; w < MOST_WALLS; w++) {
            if (bit(bits, w) == 1) {
                return w;
            }
        }
        return NONE;
    }

    // ---- sets that are looked for

    /** The least set of so many HOURS by which none is TOO WARM; the rest of the trial yard stays as told. */
    private int busyHours(int w, int most) {
        for (int hours = 0; hours <= ALL_HOURS; hours++) {
            if (Integer.bitCount(hours) == most) {
                ahead.asIf.hours[w] = hours;
                if (ahead.staysCool(present, FAR_OF_BUSY)) {
                    return hours;
                }
            }
        }
        return NONE;
    }

    /** The least set of so many new MIRRORS by which the WALL is warm enough. */
    private int blanketOf(int w, int v, int n, int fewest) {
        int mayNot = present.mirrors | 1 << w;
        for (int set = 0; set < 1 << told.number; set++) {
            if ((set & mayNot) == 0 && Integer.bitCount(set) == fewest
                    && ahead.warmthIfMirrors(present, told, set, n, w) >= v) {
                return set;
            }
        }
        return NONE;
    }

    private int harmDone(int w, int f) {
        ahead.asIf.copy(told);
        ahead.setOut(present);
        ahead.goOn(told, FAR_OF_HARM);
        int without = ahead.then.warmthOfAll(told.number);
        ahead.asIf.furnace[w] = f;
        ahead.setOut(present);
        ahead.goOn(ahead.asIf, FAR_OF_HARM);
        return ahead.then.warmthOfAll(told.number) - without;
    }

    private int leastHarmed(int f) {
        int least = 0;
        int where = NONE;
        for (int w = 0; w < told.number; w++) {
            int harm = harmDone(w, f);
            if (where == NONE || harm < least) {
                least = harm;
                where = w;
            }
        }
        return where;
    }

    private int holesOfAll() {
        int bits = ahead.allSeenIsSo(sights) ? AS_TOLD : 0;
        for (int w = 0; w < told.number; w++) {
            if (holeRate(w) != NONE) {
                bits |= 1 << w;
            }
        }
        return bits;
    }

    /** The trial yard must be as told ahead of this, and is as told again behind it. */
    private int holeRate(int w) {
        int found = NONE;
        for (int rate = 0; rate <= MOST_RATE && found == NONE; rate++) {
            ahead.asIf.rate[w] = rate;
            if (rate != told.rate[w] && ahead.allSeenIsSo(sights)) {
                found = rate;
            }
        }
        ahead.asIf.rate[w] = told.rate[w];
        return found;
    }

    // ---- the bodies of the kinds

    private int markOfWall(int w) {
        theTrace += 1;
        return present.warmth[w];
    }

    private int markOfFin(int w) {
        theTrace += 10;
        return markOfWall(w) + told.rate[w];
    }

    private int markOfBrick(int w) {
        theTrace += 100;
        return markOfWall(w) - told.dark(w);
    }

    private int markOfFurnace(int w) {
        theTrace += 1000;
        return markOfFin(w) * 2;
    }

    private int markOfWindow(int w) {
        theTrace += 10000;
        return markOfBrick(w) + w;
    }

    private int markOfHull(int w) {
        theTrace += 100000;
        return markOfWall(w) + present.hours;
    }

    /** What a text tells; the calls that ask "what if" change a copy of it. */
    private static final class Yard {
        int number;
        int limit;
        final int[] warmth = new int[MOST_WALLS];
        final int[] rate = new int[MOST_WALLS];
        final int[] work = new int[MOST_WALLS];
        final int[] hours = new int[MOST_WALLS];
        final int[] parts = new int[MOST_WALLS * MOST_WALLS];
        final int[] partsOfAll = new int[MOST_WALLS];
        // No text tells of one: it burns in copies alone.
        final int[] furnace = new int[MOST_WALLS];

        Yard() {
            makeEmpty();
        }

        void makeEmpty() {
            number = 0;
            setLimit(9);
            for (int w = 0; w < MOST_WALLS; w++) {
                warmth[w] = 0;
                rate[w] = 0;
                work[w] = 0;
                hours[w] = 0;
                partsOfAll[w] = 0;
                furnace[w] = 0;
            }
            for (int pair = 0; pair < parts.length; pair++) {
                parts[pair] = 0;
            }
        }

        void copy(Yard other) {
            number = other.number;
            limit = other.limit;
            for (int w = 0; w < MOST_WALLS; w++) {
                warmth[w] = other.warmth[w];
                rate[w] = other.rate[w];
                work[w] = other.work[w];
                hours[w] = other.hours[w];
                partsOfAll[w] = other.partsOfAll[w];
                furnace[w] = other.furnace[w];
            }
            for (int pair = 0; pair < parts.length; pair++) {
                parts[pair] = other.parts[pair];
            }
        }

        boolean hasRoom() {
            return number < MOST_WALLS;
        }

        void addWall(int itsWarmth, int itsRate) {
            if (hasRoom()) {
                warmth[number] = itsWarmth;
                rate[number] = itsRate;
                number++;
            }
        }

        int partsLeft(int a, int b) {
            return MOST_PARTS - Math.max(partsOfAll[a], partsOfAll[b]);
        }

        void addParts(int a, int b, int more) {
            parts[a * MOST_WALLS + b] += more;
            parts[b * MOST_WALLS + a] += more;
            partsOfAll[a] += more;
            partsOfAll[b] += more;
        }

        void setLimit(int n) {
            limit = 10 * n + 9;
        }

        int dark(int w) {
            return MOST_PARTS - partsOfAll[w];
        }
    }

    /** THE TEXT, byte by byte. */
    private static final class Text {
        static final int ROOM = 250;

        final byte[] bytes = new byte[ROOM];
        int length;

        boolean hasRoomFor(int n) {
            return n <= ROOM - length;
        }

        void append(long v, int n) {
            for (int left = n - 1; left >= 0 && length < ROOM; left--) {
                bytes[length] = (byte) (v >>> 8 * left);
                length++;
            }
        }

        boolean isLetter(int at) {
            return at < length && bytes[at] >= 'a' && bytes[at] <= 'z';
        }

        boolean isDigit(int at) {
            return at < length && bytes[at] >= '0' && bytes[at] <= '9';
        }

        boolean isWord(String word, int from, int to) {
            if (to - from != word.length()) {
                return false;
            }
            for (int i = 0; i < word.length(); i++) {
                if (bytes[from + i] != word.charAt(i)) {
                    return false;
                }
            }
            return true;
        }
    }

    /** The TOKENS of a text: where each begins, what it is, and which word or number. */
    private static final class Tokens {
        static final int BLANK = 32;
        static final int END = 0, WORD = 1, NUMBER = 2, SEMICOLON = 3, WRONG = 4;
        static final int NO_WORD = 0, WALL_WORD = 1, SEES_WORD = 2, WORK_WORD = 3, LIMIT_WORD = 4;
        // Each byte may be a TOKEN, and the end is told as one.
        static final int MOST = Text.ROOM + 1;

        final int[] place = new int[MOST];
        final int[] sort = new int[MOST];
        final int[] value = new int[MOST];
        int number;

        /** What is WRONG is cut too, for the place of the FAULT: only the reader knows which is the first. */
        void cut(Text text) {
            number = 0;
            int at = skipBlanks(text, 0);
            for (int i = 0; i < Text.ROOM && at < text.length; i++) {
                at = skipBlanks(text, cutOne(text, at));
            }
            add(text.length, END, 0);
        }

        int skipBlanks(Text text, int from) {
            int at = from;
            while (at < text.length && text.bytes[at] == BLANK) {
                at++;
            }
            return at;
        }

        /** The place behind the TOKEN. */
        int cutOne(Text text, int from) {
            if (text.isLetter(from)) {
                return cutWord(text, from);
            }
            if (text.isDigit(from)) {
                return cutNumber(text, from);
            }
            add(from, text.bytes[from] == ';' ? SEMICOLON : WRONG, 0);
            return from + 1;
        }

        int cutWord(Text text, int from) {
            int to = from;
            while (to < text.length && text.isLetter(to)) {
                to++;
            }
            int word = whichWord(text, from, to);
            add(from, word == NO_WORD ? WRONG : WORD, word);
            return to;
        }

        int whichWord(Text text, int from, int to) {
            if (text.isWord("wall", from, to)) {
                return WALL_WORD;
            }
            if (text.isWord("sees", from, to)) {
                return SEES_WORD;
            }
            if (text.isWord("work", from, to)) {
                return WORK_WORD;
            }
            return text.isWord("limit", from, to) ? LIMIT_WORD : NO_WORD;
        }

        int cutNumber(Text text, int from) {
            int to = from;
            int digits = 0;
            int sum = 0;
            while (to < text.length && text.isDigit(to)) {
                digits++;
                // Three digits are above 99 or have a 0 ahead, so that more of them tell nothing.
                if (digits <= 2) {
                    sum = 10 * sum + text.bytes[to] - '0';
                }
                to++;
            }
            boolean zeroAhead = digits > 1 && text.bytes[from] == '0';
            add(from, digits > 2 || zeroAhead ? WRONG : NUMBER, sum);
            return to;
        }

        void add(int itsPlace, int itsSort, int itsValue) {
            if (number < MOST) {
                place[number] = itsPlace;
                sort[number] = itsSort;
                value[number] = itsValue;
                number++;
            }
        }
    }

    /** Reads a text into a yard, TOKEN by TOKEN. */
    private static final class Reader {
        static final int AT_FAULT = -10;

        final Tokens tokens = new Tokens();
        // The TOKEN that was read last: wherever an ITEM can't go on, it is the one at fault.
        int place;
        int sort;
        int value;
        int next;
        boolean limitTold;

        /** How many ITEMS there are, or what tells the FAULT: then the yard is of no use. */
        int readInto(Yard yard, Text text) {
            tokens.cut(text);
            yard.makeEmpty();
            next = 0;
            limitTold = false;
            int items = 0;
            readToken();
            while (sort != Tokens.END && items < Tokens.MOST) {
                if (!readItem(yard)) {
                    return AT_FAULT - place;
                }
                items++;
                readToken();
            }
            return items;
        }

        /** Behind the last TOKEN, the end, there is nothing: it is read again and again. */
        void readToken() {
            if (next < tokens.number) {
                place = tokens.place[next];
                sort = tokens.sort[next];
                value = tokens.value[next];
                next++;
            }
        }

        boolean readNumber(int least, int most) {
            readToken();
            return sort == Tokens.NUMBER && value >= least && value <= most;
        }

        boolean readSemicolon() {
            readToken();
            return sort == Tokens.SEMICOLON;
        }

        boolean readItem(Yard yard) {
            if (sort != Tokens.WORD) {
                return false;
            }
            switch (value) {
                case Tokens.WALL_WORD: return readWall(yard);
                case Tokens.SEES_WORD: return readSees(yard);
                case Tokens.WORK_WORD: return readWork(yard);
                case Tokens.LIMIT_WORD: return readLimit(yard);
                default: return false;
            }
        }

        boolean readWall(Yard yard) {
            if (!yard.hasRoom() || !readNumber(0, 99)) {
                return false;
            }
            int warmth = value;
            if (!readNumber(0, MOST_RATE)) {
                return false;
            }
            int rate = value;
            if (!readSemicolon()) {
                return false;
            }
            yard.addWall(warmth, rate);
            return true;
        }

        boolean readSees(Yard yard) {
            if (!readNumber(0, yard.number - 1)) {
                return false;
            }
            int a = value;
            if (!readNumber(0, yard.number - 1) || value == a) {
                return false;
            }
            int b = value;
            if (!readNumber(1, yard.partsLeft(a, b))) {
                return false;
            }
            int more = value;
            if (!readSemicolon()) {
                return false;
            }
            yard.addParts(a, b, more);
            return true;
        }

        boolean readWork(Yard yard) {
            if (!readNumber(0, yard.number - 1)) {
                return false;
            }
            int w = value;
            if (!readNumber(0, MOST_WORK)) {
                return false;
            }
            int work = value;
            if (!readNumber(0, 15)) {
                return false;
            }
            int hours = value;
            if (!readNumber(0, 15)) {
                return false;
            }
            hours += 16 * value;
            if (!readSemicolon()) {
                return false;
            }
            yard.work[w] = work;
            yard.hours[w] = hours;
            return true;
        }

        boolean readLimit(Yard yard) {
            if (limitTold || !readNumber(0, 99)) {
                return false;
            }
            int n = value;
            if (!readSemicolon()) {
                return false;
            }
            yard.setLimit(n);
            limitTold = true;
            return true;
        }
    }

    /** How all stands in one HOUR: that is what an IMAGE keeps, and what goes on in trials. */
    private static final class Present {
        int hours;
        int shutOnes;
        int mirrors;
        int givenToDark;
        int changesKnown;
        final int[] warmth = new int[MOST_WALLS];
        final int[] warmthThen = new int[MOST_WALLS];
        final int[] changes = new int[MOST_CHANGES];

        void begin(Yard yard) {
            hours = 0;
            shutOnes = 0;
            mirrors = 0;
            givenToDark = 0;
            changesKnown = 0;
            for (int w = 0; w < MOST_WALLS; w++) {
                warmth[w] = yard.warmth[w];
            }
        }

        void copy(Present other) {
            hours = other.hours;
            shutOnes = other.shutOnes;
            mirrors = other.mirrors;
            givenToDark = other.givenToDark;
            for (int w = 0; w < MOST_WALLS; w++) {
                warmth[w] = other.warmth[w];
            }
        }

        void copyWithChanges(Present other) {
            copy(other);
            changesKnown = other.changesKnown;
            for (int i = 0; i < MOST_CHANGES; i++) {
                changes[i] = other.changes[i];
            }
        }

        /** Of a change it is enough to know which bit it turned: the same turn undoes it. */
        void change(int which) {
            if (changesKnown >= MOST_CHANGES) {
                for (int i = 1; i < MOST_CHANGES; i++) {
                    changes[i - 1] = changes[i];
                }
                changesKnown = MOST_CHANGES - 1;
            }
            changes[changesKnown] = which;
            changesKnown++;
            turn(which);
        }

        void changeBack() {
            if (changesKnown > 0) {
                changesKnown--;
                turn(changes[changesKnown]);
            }
        }

        void turn(int which) {
            if (which < MOST_WALLS) {
                shutOnes ^= 1 << which;
            } else {
                mirrors ^= 1 << which - MOST_WALLS;
            }
        }

        /** How much the DARK has of the HOUR. */
        int goBy(Yard yard) {
            int round = hours % HOURS_OF_A_ROUND;
            for (int w = 0; w < yard.number; w++) {
                warmthThen[w] = warmth[w] + bit(yard.hours[w], round) * yard.work[w] + yard.furnace[w];
            }
            int dark = 0;
            for (int w = 0; w < yard.number; w++) {
                dark += giveOff(yard, w);
            }
            for (int w = 0; w < yard.number; w++) {
                warmth[w] = warmthThen[w];
            }
            hours++;
            givenToDark += dark;
            return dark;
        }

        /** What of it comes to the DARK: it has what nobody else does. */
        int giveOff(Yard yard, int w) {
            int gift = bit(shutOnes, w) == 1 ? 0 : warmth[w] * yard.rate[w] / 10;
            if (gift == 0) {
                return 0;
            }
            warmthThen[w] -= gift;
            int left = gift;
            for (int other = 0; other < yard.number; other++) {
                int share = gift * yard.parts[w * MOST_WALLS + other] / MOST_PARTS;
                // Most pairs SEE little of one another, and trials go through here a great many times.
                if (share == 0) {
                    continue;
                }
                if (bit(mirrors, other) == 1) {
                    warmthThen[w] += share;
                    left -= share;
                } else if (bit(shutOnes, other) == 0) {
                    warmthThen[other] += share;
                    left -= share;
                }
            }
            return left;
        }

        int warmthOfAll(int number) {
            int sum = 0;
            for (int w = 0; w < number && w < MOST_WALLS; w++) {
                sum += warmth[w];
            }
            return sum;
        }

        int tooWarm(Yard yard) {
            int bits = 0;
            for (int w = 0; w < yard.number; w++) {
                if (warmth[w] > yard.limit) {
                    bits |= 1 << w;
                }
            }
            return bits;
        }

        int warmest(int number) {
            int most = NONE;
            for (int w = 0; w < number && w < MOST_WALLS; w++) {
                if (most == NONE || warmth[w] > warmth[most]) {
                    most = w;
                }
            }
            return most;
        }

        int warmthOfWarmest(int number) {
            int most = 0;
            for (int w = 0; w < number && w < MOST_WALLS; w++) {
                most = Math.max(most, warmth[w]);
            }
            return most;
        }
    }

    /** What comes, tried out beside what is. */
    private static final class Ahead {
        final Present then = new Present();
        final Yard asIf = new Yard();
        // The WARMTHS of the latest 8 HOURS, a row for each.
        final int[] round = new int[HOURS_OF_A_ROUND * MOST_WALLS];

        void setOut(Present present) {
            then.copy(present);
        }

        void goOn(Yard yard, int n) {
            for (int i = 0; i < n; i++) {
                then.goBy(yard);
            }
        }

        int hoursToRest(Yard yard) {
            for (int n = 0; n <= FAR_TO_REST + HOURS_OF_A_ROUND; n++) {
                int row = n % HOURS_OF_A_ROUND * MOST_WALLS;
                if (n >= HOURS_OF_A_ROUND && isAsInRow(row, yard.number)) {
                    return n - HOURS_OF_A_ROUND;
                }
                for (int w = 0; w < yard.number; w++) {
                    round[row + w] = then.warmth[w];
                }
                then.goBy(yard);
            }
            return NONE;
        }

        boolean isAsInRow(int row, int number) {
            for (int w = 0; w < number; w++) {
                if (round[row + w] != then.warmth[w]) {
                    return false;
                }
            }
            return true;
        }

        int warmestIfShut(Present present, Yard yard, int shutOnes, int n) {
            setOut(present);
            then.shutOnes = shutOnes;
            goOn(yard, n);
            return then.warmthOfWarmest(yard.number);
        }

        int warmthIfMirrors(Present present, Yard yard, int more, int n, int w) {
            setOut(present);
            then.mirrors |= more;
            goOn(yard, n);
            return then.warmth[w];
        }

        boolean staysCool(Present present, int n) {
            setOut(present);
            for (int i = 0; i < n; i++) {
                then.goBy(asIf);
                if (then.tooWarm(asIf) != 0) {
                    return false;
                }
            }
            return true;
        }

        boolean allSeenIsSo(Sights sights) {
            then.begin(asIf);
            int latest = sights.latest();
            for (int n = 0; n <= latest; n++) {
                if (!sights.areSo(n, then)) {
                    return false;
                }
                then.goBy(asIf);
            }
            return true;
        }
    }

    /** What was SEEN. */
    private static final class Sights {
        int number;
        final int[] behindHours = new int[MOST_SIGHTS];
        final int[] which = new int[MOST_SIGHTS];
        final int[] warmth = new int[MOST_SIGHTS];

        void add(int n, int w, int itsWarmth) {
            if (number < MOST_SIGHTS) {
                behindHours[number] = n;
                which[number] = w;
                warmth[number] = itsWarmth;
                number++;
            }
        }

        int latest() {
            int latest = NONE;
            for (int i = 0; i < number; i++) {
                latest = Math.max(latest, behindHours[i]);
            }
            return latest;
        }

        boolean areSo(int n, Present then) {
            for (int i = 0; i < number; i++) {
                if (behindHours[i] == n && then.warmth[which[i]] != warmth[i]) {
                    return false;
                }
            }
            return true;
        }
    }
}
