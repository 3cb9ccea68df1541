/** THE TEXT at its edges (Terms, promises 2 to 4): a test for each sentence that names one. */
final class TextEdgesTest {
    private static final int FULL = -3;
    private static final String TWO = "wall 1 1;wall 1 1;";
    private static final String THREE = TWO + "wall 1 1;";
    private static final String SIX = THREE + THREE;

    public static void main(String[] args) {
        typedAreTheLowestBytes();
        typedAreOneToEight();
        textOf250Bytes();
        fullIsNoPartOfIt();
        clearOfNoneAndOfAll();
        blanksAre32Alone();
        blanksAheadBetweenBehind();
        blanksWhereTokensEndWithout();
        itemsNoneToo();
        eachEndedBySemicolon();
        sixWallsAtMost();
        warmthTo99();
        rateTo9();
        seesAreToldAhead();
        seesAreUnlike();
        seesOneToTenParts();
        seesTenOfEachTogether();
        seesToldAgainIsAdded();
        workIsToldAhead();
        worksTo20();
        hoursTo15And15();
        workToldAgainIsTheLater();
        limitTo99();
        limitOnceAtMost();
        wordsOfLettersAToZ();
        numbersAbove99();
        numbersWith0Ahead();
        bytesThatBeginNone();
        endsTooEarly();
        theFirstFaultCounts();
        aFaultChangesNothing();
        readAnewIsAsNew();
        Due.end("TextEdgesTest");
    }

    /** "The lowest n bytes of v, the highest of them first": what stands above them is not typed. */
    private static void typedAreTheLowestBytes() {
        String text = "limit 42;";
        for (int n = 1; n <= 8; n++) {
            for (long above : new long[] {0, -1, 0x7A7A7A7A7A7A7A7AL, Long.MIN_VALUE}) {
                long v = above;
                for (int i = 0; i < n; i++) {
                    v = v << 8 | text.charAt(i);
                }
                SeenCools x = new SeenCools();
                Due.due("type(" + v + ", " + n + ")", x.type(v, n), n);
                Due.put(x, text.substring(n));
                Due.due("walls() behind type(" + v + ", " + n + ")", x.walls(), 1);
                Due.due("count(1) behind type(" + v + ", " + n + ")", x.count(1), 429);
            }
        }
    }

    /** "n (1 .. 8)": the last ones that are allowed; RefusedTest has those beyond. */
    private static void typedAreOneToEight() {
        SeenCools x = new SeenCools();
        int length = 0;
        for (int n = 1; n <= 8; n++) {
            length += n;
            Due.due("type(0, " + n + ")", x.type(0, n), length);
        }
    }

    /** "A text (250 bytes at most)": the last byte is read, one more is not taken. */
    private static void textOf250Bytes() {
        for (int n = 1; n <= 8; n++) {
            SeenCools x = new SeenCools();
            Due.put(x, " ".repeat(250 - n));
            Due.due("type of the last " + n, x.type(0x2020202020202020L, n), 250);
            Due.due("type of the 251st", x.type(' ', 1), FULL);
        }
        SeenCools last = new SeenCools();
        Due.put(last, " ".repeat(241) + "wall 7 3;");
        Due.due("count(6) of 250", last.count(6), 250);
        Due.due("walls() of 250 bytes", last.walls(), 1);
        Due.due("count(6) when they are read", last.count(6), 0);
        SeenCools beyond = new SeenCools();
        Due.put(beyond, " ".repeat(242) + "wall 7 3");
        Due.due("type of the 251st, ;", beyond.type(';', 1), FULL);
        Due.due("walls() of what lacks it", beyond.walls(), -10 - 250);
        Due.fault(" ".repeat(249) + "^;");
        Due.fault("^" + ";".repeat(250));
        Due.reads("wall0 0;" + "work0 0 0 0;".repeat(20) + "  ", 21);
    }

    /** "FULL": nothing changes; no part of what is too long comes to THE TEXT. */
    private static void fullIsNoPartOfIt() {
        for (int n = 1; n <= 8; n++) {
            int had = 251 - n;
            int many = n;
            String call = "type of " + n + " bytes behind " + had;
            SeenCools x = new SeenCools();
            Due.put(x, " ".repeat(had));
            Due.refused(x, call, () -> x.type(0x3B3B3B3B3B3B3B3BL, many), FULL);
            Due.due("walls() behind " + call, x.walls(), 0);
        }
    }

    /** "THE TEXT is empty: how many bytes it had." */
    private static void clearOfNoneAndOfAll() {
        for (int bytes : new int[] {0, 1, 249, 250}) {
            SeenCools x = new SeenCools();
            Due.put(x, ";".repeat(bytes));
            Due.due("clear() of " + bytes, x.clear(), bytes);
            Due.due("clear() of what is empty", x.clear(), 0);
            Due.due("walls() of what is empty", x.walls(), 0);
            Due.due("type into what is empty", x.type(0, 8), 8);
        }
    }

    /** "Blanks (32)": of all bytes this one alone. */
    private static void blanksAre32Alone() {
        for (int b = 0; b < 256; b++) {
            SeenCools alone = new SeenCools();
            alone.type(b, 1);
            Due.due("walls() of byte " + b, alone.walls(), b == 32 ? 0 : -10);
            SeenCools between = new SeenCools();
            Due.put(between, "wall 1");
            between.type(b, 1);
            Due.put(between, "1;");
            // A digit makes one NUMBER of all three, above 99.
            int fault = b >= '0' && b <= '9' ? 5 : 6;
            Due.due("walls() of byte " + b + " between NUMBERS", between.walls(), b == 32 ? 1 : -10 - fault);
        }
    }

    /** "Blanks ahead of, between and behind TOKENS as may be", and no TOKEN goes on behind one. */
    private static void blanksAheadBetweenBehind() {
        String[] tokens = {"wall", "7", "3", ";", "wall", "8", "4", ";", "sees", "0", "1", "5", ";",
            "work", "1", "9", "2", "3", ";", "limit", "6", ";"};
        String due = Due.picture(Due.yard("wall 7 3;wall 8 4;sees 0 1 5;work 1 9 2 3;limit 6;"));
        for (int place = 0; place <= tokens.length; place++) {
            for (int many : new int[] {0, 1, 2, 30}) {
                StringBuilder text = new StringBuilder();
                for (int i = 0; i < tokens.length; i++) {
                    boolean needed = i > 0 && isNumber(tokens[i]) && isNumber(tokens[i - 1]);
                    text.append(i == place && many > 0 ? " ".repeat(many) : needed ? " " : "").append(tokens[i]);
                }
                text.append(place == tokens.length ? " ".repeat(many) : "");
                Due.due("the yard of " + text, Due.picture(Due.reads(text.toString(), 5)), due);
            }
        }
        Due.fault("^wa ll 1 1;");
        Due.fault("wall 1 0 ^1;");
        Due.fault("limit 1 ^2;");
    }

    private static boolean isNumber(String token) {
        return token.charAt(0) >= '0' && token.charAt(0) <= '9';
    }

    /** "None needed where TOKENS end without": two words or two NUMBERS don't. */
    private static void blanksWhereTokensEndWithout() {
        Due.reads("wall1 1;wall1 1;sees0 1 1;work0 1 1 1;limit1;", 5);
        Due.fault("wall11^;");
        Due.fault("^walllimit");
        Due.fault("wall 1^wall;");
        Due.fault("wall 5^x 1;");
    }

    /** "ITEMS (none, too)": the yard is read anew, as one of which nothing is told. */
    private static void itemsNoneToo() {
        for (String text : new String[] {"", " ", " ".repeat(250)}) {
            SeenCools x = Laden.yard();
            x.clear();
            Due.put(x, text);
            long trace = x.trace();
            Due.due("walls() of " + text.length() + " blanks", x.walls(), 0);
            Due.due("the yard behind it", Due.picture(x), "0 99 0 0 0 0 0 0 0 0 0 -9 64 " + trace);
        }
        Due.reads("limit 1;", 1);
        Due.fault("^;");
        Due.fault("wall 1 1;^;");
        Due.fault("limit 1; ^;");
    }

    /** "ITEMS, each ended by ;". */
    private static void eachEndedBySemicolon() {
        for (String item : new String[] {"wall 1 1", "sees 0 1 1", "work 0 1 1 1", "limit 1"}) {
            Due.fault(TWO + item + "^");
            Due.fault(TWO + item + "  ^");
            Due.fault(TWO + item + " ^wall 1 1;");
            Due.fault(TWO + item + " ^1;");
            Due.fault(TWO + item + "^:");
            Due.reads(TWO + item + ";", 3);
        }
    }

    /** "6 of them at most"; "a seventh wall": at its word, whatever comes behind it. */
    private static void sixWallsAtMost() {
        Due.due("count(0)", Due.reads(SIX, 6).count(0), 6);
        Due.fault(SIX + "^wall 1 1;");
        Due.fault(SIX + "^wall");
        Due.fault(SIX + "^wall 100 10;");
        Due.fault(SIX + "limit 1;sees 0 5 1; ^wall 1 1;");
        Due.fault(SIX + "^walls");
        Due.reads(SIX + "sees 5 4 10;work 5 20 15 15;limit 99;", 9);
    }

    /** What a NUMBER may be, for all of one digit or two and some more: allowed from least to most, else the FAULT. */
    private static void number(String ahead, String behind, int least, int most) {
        for (int n = 0; n <= 120; n++) {
            String text = ahead + n + behind;
            SeenCools x = new SeenCools();
            Due.put(x, text);
            int answer = x.walls();
            if (n >= least && n <= most) {
                Due.due("\"" + text + "\" is read: answer " + answer, answer >= 0 ? 1 : 0, 1);
            } else {
                Due.due("walls() of \"" + text + "\"", answer, -10 - ahead.length());
            }
        }
    }

    /** "WARMTH (0 .. 99)". */
    private static void warmthTo99() {
        number("wall ", " 1;", 0, 99);
        Due.due("wall(0, 0)", Due.yard("wall 0 1;").wall(0, 0), 0);
        Due.due("wall(0, 0)", Due.yard("wall 99 1;").wall(0, 0), 99);
    }

    /** "RATE (0 .. 9)". */
    private static void rateTo9() {
        number("wall 1 ", ";", 0, 9);
        Due.due("wall(0, 1)", Due.yard("wall 1 0;").wall(0, 1), 0);
        Due.due("wall(0, 1)", Due.yard("wall 1 9;").wall(0, 1), 9);
    }

    /** "Sees A B N (WALLS told ahead, ..)": none that is told behind. */
    private static void seesAreToldAhead() {
        number("sees ", " 1 1;", 0, -1);
        number("wall 1 1;sees 0 ", " 1;", 1, 0);
        number(THREE + "sees 0 ", " 1;wall 1 1;wall 1 1;", 1, 2);
        number(THREE + "sees 2 ", " 1;wall 1 1;wall 1 1;", 0, 1);
        for (int a = 0; a <= 99; a++) {
            int b = a == 0 ? 1 : 0;
            if (a < 6) {
                Due.due("sees(" + a + ", " + b + ")", Due.reads(SIX + "sees " + a + " " + b + " 1;", 7).sees(a, b), 1);
            } else {
                Due.fault(SIX + "sees ^" + a + " " + b + " 1;");
            }
        }
        Due.fault("sees ^0 1 1;" + TWO);
        Due.fault("wall 1 1;sees 0 ^1 1;wall 1 1;");
        Due.fault("wall 1 1;sees ^1 0 1;wall 1 1;");
    }

    /** "(.., unlike)"; "a B that is A". */
    private static void seesAreUnlike() {
        for (int a = 0; a < 6; a++) {
            Due.fault(SIX + "sees " + a + " ^" + a + " 1;");
            for (int b = 0; b < 6; b++) {
                if (b != a) {
                    Due.reads(SIX + "sees " + a + " " + b + " 1;", 7);
                }
            }
        }
    }

    /** "So many of 10 parts (1 .. 10, both ways alike ..)". */
    private static void seesOneToTenParts() {
        number(TWO + "sees 0 1 ", ";", 1, 10);
        number(TWO + "sees 1 0 ", ";", 1, 10);
        for (int n = 1; n <= 10; n++) {
            SeenCools x = Due.yard(TWO + "sees 0 1 " + n + ";");
            Due.due("sees(0, 1)", x.sees(0, 1), n);
            Due.due("sees(1, 0)", x.sees(1, 0), n);
        }
    }

    /** "10 at most of each WALL together"; "an N by which one SEES more than 10", A or B. */
    private static void seesTenOfEachTogether() {
        for (int had = 1; had <= 9; had++) {
            number(THREE + "sees 0 2 " + had + ";sees 0 1 ", ";", 1, 10 - had);
            number(THREE + "sees 0 2 " + had + ";sees 1 0 ", ";", 1, 10 - had);
            number(THREE + "sees 1 2 " + had + ";sees 0 1 ", ";", 1, 10 - had);
            number(THREE + "sees 2 1 " + had + ";sees 1 0 ", ";", 1, 10 - had);
        }
        number(THREE + "sees 0 2 10;sees 0 1 ", ";", 1, 0);
        number(THREE + "sees 1 2 10;sees 0 1 ", ";", 1, 0);
        number(THREE + "sees 0 2 3;sees 1 2 6;sees 0 1 ", ";", 1, 4);
        number(THREE + "sees 0 2 6;sees 1 2 3;sees 0 1 ", ";", 1, 4);
        // A third one's parts are no matter.
        number(SIX + "sees 2 3 10;sees 4 5 10;sees 0 1 ", ";", 1, 10);
        Due.reads(SIX + "sees 0 1 2;sees 0 2 2;sees 0 3 2;sees 0 4 2;sees 0 5 2;", 11);
        Due.fault(SIX + "sees 0 1 2;sees 0 2 2;sees 0 3 2;sees 0 4 2;sees 0 5 ^3;");
    }

    /** "(Told again of two: added)", either way, up to 10. */
    private static void seesToldAgainIsAdded() {
        for (int had = 1; had <= 9; had++) {
            number(TWO + "sees 0 1 " + had + ";sees 0 1 ", ";", 1, 10 - had);
            number(TWO + "sees 0 1 " + had + ";sees 1 0 ", ";", 1, 10 - had);
        }
        SeenCools x = Due.reads(TWO + "sees 0 1 1;".repeat(5) + "sees 1 0 1;".repeat(5), 12);
        Due.due("sees(0, 1)", x.sees(0, 1), 10);
        Due.due("sees(1, 0)", x.sees(1, 0), 10);
        Due.fault(TWO + "sees 0 1 1;".repeat(5) + "sees 1 0 1;".repeat(5) + "sees 0 1 ^1;");
    }

    /** "Work A ..": a WALL told ahead. */
    private static void workIsToldAhead() {
        number("work ", " 1 1 1;wall 1 1;", 0, -1);
        number("wall 1 1;work ", " 1 1 1;wall 1 1;", 0, 0);
        number(SIX + "work ", " 1 1 1;", 0, 5);
    }

    /** "So much (0 .. 20)". */
    private static void worksTo20() {
        number("wall 1 1;work 0 ", " 1 1;", 0, 20);
        Due.due("wall(0, 2)", Due.yard("wall 1 1;work 0 0 1 1;").wall(0, 2), 0);
        Due.due("wall(0, 2)", Due.yard("wall 1 1;work 0 20 1 1;").wall(0, 2), 20);
    }

    /** "HOURS are X and 16 Y, X, Y 0 .. 15" (so that they are 0 .. 255). */
    private static void hoursTo15And15() {
        number("wall 1 1;work 0 1 ", " 1;", 0, 15);
        number("wall 1 1;work 0 1 1 ", ";", 0, 15);
        for (int hours = 0; hours <= 255; hours++) {
            String text = "wall 1 1;work 0 1 " + hours % 16 + " " + hours / 16 + ";";
            Due.due("wall(0, 3) of " + text, Due.yard(text).wall(0, 3), hours);
        }
    }

    /** "(Told again: the later one counts)": all of it, and for this WALL alone. */
    private static void workToldAgainIsTheLater() {
        SeenCools x = Due.reads(TWO + "work 0 20 15 15;work 1 5 1 0;work 0 3 0 8;work 0 7 2 1;work 1 0 0 0;", 7);
        Due.due("wall(0, 2)", x.wall(0, 2), 7);
        Due.due("wall(0, 3)", x.wall(0, 3), 18);
        Due.due("wall(1, 2)", x.wall(1, 2), 0);
        Due.due("wall(1, 3)", x.wall(1, 3), 0);
    }

    /** "Limit N (0 .. 99; LIMIT is 10 N and 9 ..)". */
    private static void limitTo99() {
        number("limit ", ";", 0, 99);
        for (int n = 0; n <= 99; n++) {
            Due.due("count(1) of limit " + n, Due.yard("limit " + n + ";").count(1), 10 * n + 9);
        }
    }

    /** "(..; once at most)"; "limit told again": at its word. A text that is read later may tell it once more. */
    private static void limitOnceAtMost() {
        Due.fault("limit 1;^limit 1;");
        Due.fault("limit 0;wall 1 1; ^limit 0;");
        Due.fault("limit 1;^limit 100;");
        Due.fault("limit 1;^limit");
        SeenCools x = Due.yard("limit 1;");
        Due.put(x, "limit 2;limit");
        Due.due("walls()", x.walls(), -10 - 8);
        Due.due("count(1) behind a FAULT", x.count(1), 19);
        x.clear();
        Due.put(x, "limit 3;");
        Due.due("walls() of one limit", x.walls(), 1);
        Due.due("count(1)", x.count(1), 39);
        Due.due("walls() of none", x.walls(), 0);
        Due.due("count(1), not told", x.count(1), 99);
    }

    /** "TOKENS are words of letters a .. z (wall, sees, work, limit)"; "a word that is none of these". */
    private static void wordsOfLettersAToZ() {
        String[] items = {"wall 1 1;", "sees 0 1 1;", "work 0 1 1 1;", "limit 1;"};
        for (String item : items) {
            String word = item.substring(0, item.indexOf(' '));
            String rest = item.substring(word.length());
            Due.fault(TWO + "^" + word.substring(1) + rest);
            Due.fault(TWO + "^" + word.substring(0, word.length() - 1) + rest);
            Due.fault(TWO + "^" + word + "a" + rest);
            Due.fault(TWO + "^" + word + "z" + rest);
            Due.fault(TWO + "^z" + word + rest);
            Due.fault(TWO + "^" + word + word + rest);
            // The bytes beside a .. z end a word, and begin no TOKEN.
            Due.fault(TWO + word + "^`" + rest);
            Due.fault(TWO + word + "^{" + rest);
            Due.fault(TWO + "^`" + word + rest);
            Due.fault(TWO + "^{" + word + rest);
            for (int i = 0; i < word.length(); i++) {
                String upper = word.substring(0, i) + (char) (word.charAt(i) - 32) + word.substring(i + 1);
                Due.fault(TWO + "^" + upper + rest);
                String other = word.substring(0, i) + (char) (word.charAt(i) + 1) + word.substring(i + 1);
                Due.fault(TWO + "^" + other + rest);
            }
        }
        Due.fault("^w");
        Due.fault("^" + "wall".repeat(62));
        Due.fault("wall^/1 1;");
        Due.fault("wall^:1 1;");
    }

    private static void inEachPlace(String number) {
        Due.fault("wall ^" + number + " 1;");
        Due.fault("wall 1 ^" + number + ";");
        Due.fault(TWO + "sees ^" + number + " 1 1;");
        Due.fault(TWO + "sees 1 ^" + number + " 1;");
        Due.fault(TWO + "sees 0 1 ^" + number + ";");
        Due.fault(TWO + "work ^" + number + " 1 1 1;");
        Due.fault(TWO + "work 0 ^" + number + " 1 1;");
        Due.fault(TWO + "work 0 1 ^" + number + " 1;");
        Due.fault(TWO + "work 0 1 1 ^" + number + ";");
        Due.fault("limit ^" + number + ";");
    }

    /** "A NUMBER above 99": however long it is; none comes round to a small one. */
    private static void numbersAbove99() {
        String[] above = {"100", "101", "110", "256", "999", "1000", "65536", "65537", "4294967296", "4294967297",
            "18446744073709551616", "18446744073709551617", "1" + "0".repeat(200)};
        for (String number : above) {
            inEachPlace(number);
        }
        Due.reads("wall 99 9;limit 99;", 2);
    }

    /** "A NUMBER .. with a 0 ahead of others"; 0 alone has none behind it. */
    private static void numbersWith0Ahead() {
        for (String number : new String[] {"00", "01", "09", "000", "001", "010", "0000000001", "0".repeat(200)}) {
            inEachPlace(number);
        }
        Due.reads("wall 0 0;wall 0 0;sees 0 1 1;work 0 0 0 0;limit 0;", 5);
    }

    /** "Of a byte that begins none .. that TOKEN's", wherever it stands. */
    private static void bytesThatBeginNone() {
        String[] tokens = {"wall", "7", "3", ";", "wall", "8", "4", ";", "sees", "0", "1", "5", ";",
            "work", "1", "9", "2", "3", ";", "limit", "6", ";", ""};
        for (char b : "\u0000\u0001\t\n\r\u001f!\"+,-./:<=@AWZ[_`{|}~\u007f\u0080\u00a0\u00ff".toCharArray()) {
            for (int place = 0; place < tokens.length; place++) {
                StringBuilder text = new StringBuilder();
                for (int i = 0; i < tokens.length; i++) {
                    text.append(i == place ? "^" + b : "").append(tokens[i]).append(' ');
                }
                Due.fault(text.toString());
            }
        }
        Due.fault("wall ^-1 1;");
        Due.fault("wall ^+1 1;");
        Due.fault("wall 1^.5 1;");
    }

    /** "The text's length, if it ends too early": behind each TOKEN that ends no ITEM, with blanks and without. */
    private static void endsTooEarly() {
        String text = "wall 70 3;wall 8 4;sees 0 1 5;work 1 19 12 3;limit 60;";
        int items = 0;
        int word = 0;
        for (int length = 0; length <= text.length(); length++) {
            String part = text.substring(0, length);
            char last = length == 0 ? ';' : text.charAt(length - 1);
            if (last == ';') {
                items += length == 0 ? 0 : 1;
                word = length;
                Due.reads(part, items);
                Due.reads(part + "  ", items);
            } else if (last >= 'a' && text.charAt(length) >= 'a') {
                Due.fault(part.substring(0, word) + "^" + part.substring(word));
            } else {
                Due.fault(part + "^");
                Due.fault(part + "  ^");
            }
        }
        Due.fault(" ".repeat(246) + "wall^");
        Due.fault("wall" + " ".repeat(246) + "^");
        Due.fault("wall 1 1" + " ".repeat(242) + "^");
    }

    /** "The first TOKEN that can't stand there": what comes behind it is no matter, whatever it is. */
    private static void theFirstFaultCounts() {
        Due.fault("wall ^100 @;");
        Due.fault("wall ^@ 100;");
        Due.fault("wall ^; walls");
        Due.fault("^1 walls");
        Due.fault("wall 1 1;sees 0 ^0 11;");
        Due.fault("wall 1 1;sees ^1 1 0;");
        Due.fault(TWO + "sees 0 1 ^0 0;");
        Due.fault(TWO + "work 0 ^21 16 16;");
        Due.fault(TWO + "work 0 20 ^16 16;");
        Due.fault("limit ^100;limit 100;");
        Due.fault("wall 1 1 ^@");
        Due.fault("^walls wall 1 1;");
    }

    /** "-10 less FAULT: nothing changes (THE TEXT, too, stays)." */
    private static void aFaultChangesNothing() {
        String[] marked = {"^;", "limit 77;wall 1 1;wall 2 2;sees 0 1 9;wall 3 ^33;", SIX + "work 0 1 1 1;limit 1;^wall",
            "wall 1 1^", "limit 0;^limit 0;"};
        for (String one : marked) {
            int place = one.indexOf('^');
            String text = one.replace("^", "");
            Shown.refused(() -> typed(Laden.yard(), text), "walls() of \"" + text + "\"", SeenCools::walls, -10 - place);
            SeenCools again = typed(Laden.yard(), text);
            again.walls();
            Due.due("walls() of it again", again.walls(), -10 - place);
            Due.due("clear() of it", again.clear(), text.length());
        }
    }

    private static SeenCools typed(SeenCools x, String text) {
        x.clear();
        Due.put(x, text);
        return x;
    }

    /**
     * "Read anew: as told (what is not told as at first), HOUR 0, .. IMAGES are gone; THE TRACE stays", whatever was
     * read ahead, once or more than once.
     */
    private static void readAnewIsAsNew() {
        String full = SIX + "sees 0 1 5;sees 2 0 4;sees 3 5 9;work 0 9 3 2;work 4 20 15 15;limit 5;";
        String[] texts = {"", "wall 1 1;", "wall 1 1;wall 2 2;wall 3 3;", SIX, full, "wall 5 5;work 0 4 3 2;"};
        for (String text : texts) {
            SeenCools fresh = Due.yard("wall 0 0;");
            fresh.mark(5, 0);
            readAll(fresh, text);
            String due = Shown.all(fresh);
            SeenCools once = Laden.yard();
            once.clear();
            readAll(once, text);
            Due.due("all of what is read anew: " + text, Shown.all(once), due);
            for (String between : texts) {
                SeenCools again = Laden.yard();
                again.clear();
                readAll(again, between, text);
                Due.due("all of what is read anew: " + text + " behind " + between, Shown.all(again), due);
            }
        }
    }

    private static void readAll(SeenCools x, String... texts) {
        for (String text : texts) {
            Due.put(x, text);
            x.walls();
        }
    }
}
