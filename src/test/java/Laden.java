/** Objects in which nothing is as at first, made the same each time. */
final class Laden {
    private Laden() {
    }

    /** Three WALLS; HOURS gone by, SHUT ones, MIRRORS, two IMAGES, SEEN, MARKS, and a text that is not read yet. */
    static SeenCools yard() {
        SeenCools x = Due.yard("wall 80 5;wall 20 2;wall 50 9;sees 0 1 3;sees 1 2 4;work 1 7 3 0;work 2 11 0 15;limit 8;");
        x.shut(2, 1);
        Due.hours(x, 2);
        x.mirror(1, 1);
        x.keep(0);
        x.hour();
        x.shut(0, 1);
        x.mirror(1, 0);
        x.keep(1);
        x.shut(2, 0);
        x.mirror(2, 1);
        x.hour();
        x.saw(1, 2, 9);
        x.saw(1, 1, 46);
        x.mark(5, 1);
        Due.put(x, "wall 9 9;wall 8 1;sees 1 0 2;");
        return x;
    }

    /** As much of all as there can be: six WALLS, all SHUT MIRRORS, ten to be UNDONE, eight SEEN, 250 bytes. */
    static SeenCools full() {
        SeenCools x = Due.yard("wall 99 9;".repeat(6) + "sees 0 1 10;sees 2 3 10;sees 4 5 10;work 5 20 15 15;limit 99;");
        for (int w = 0; w < 6; w++) {
            x.shut(w, 1);
            x.mirror(w, 1);
        }
        x.hour();
        x.keep(0);
        x.keep(1);
        for (int i = 0; i < 8; i++) {
            x.saw(0, i % 6, 99);
        }
        Due.put(x, "wall 7 7;" + " ".repeat(241));
        return x;
    }
}
