/** Objects with the same past: what one of them was asked or refused besides must not show in what it answers. */
final class Twins {
    /** What stands on the tape, for town() to read. */
    static final String TAPE = "k7;s61,3;";

    private Twins() { }

    static OneWayTillNoon made() {
        OneWayTillNoon x = madeWithoutTape();
        Due.fed(x, TAPE);
        return x;
    }

    /** A town with something of everything, and an image of it as it was before. */
    static OneWayTillNoon madeWithoutTape() {
        OneWayTillNoon x = Due.townOf("k5;s01,10;s12,20b;s20,30;s23,1;s34,5;", "s40,7;e03@700,1;e41@3,2;m1,1;m5,0;");
        x.corner(0);
        x.image();
        Due.told(x, "e24@715,7;k6;");
        x.set(0, 730);
        x.set(2, 100);
        x.set(3, 2);
        x.point(24);
        x.shut(3, true);
        x.corner(1);
        return x;
    }

    /** All that can be asked, what takes something away last: the row, the tape, the image. */
    static String answers(OneWayTillNoon x) {
        StringBuilder text = new StringBuilder();
        for (int what = 0; what <= 7; what++) {
            put(text, "count", x.count(what));
        }
        told(text, x);
        asked(text, x);
        put(text, "corner", x.corner(2));
        put(text, "procession", x.procession());
        put(text, "town", x.town());
        told(text, x);
        put(text, "on", x.on());
        for (int what = 0; what <= 7; what++) {
            put(text, "count", x.count(what));
        }
        told(text, x);
        put(text, "corner", x.corner(1));
        put(text, "corner", x.corner(2));
        put(text, "procession", x.procession());
        return text.toString();
    }

    private static void put(StringBuilder text, String name, long answer) {
        text.append(name).append(' ').append(answer).append("; ");
    }

    private static void told(StringBuilder text, OneWayTillNoon x) {
        for (int s = 0; s < x.count(1); s++) {
            for (int what = 0; what < 6; what++) {
                put(text, "street", x.street(s, what));
            }
        }
        for (int e = 0; e < x.count(2); e++) {
            for (int what = 0; what < 4; what++) {
                put(text, "errand", x.errand(e, what));
            }
        }
        int[] least = {0, 0, 10, 0};
        for (int what = 0; what < least.length; what++) {
            int was = x.set(what, least[what]);
            x.set(what, was);
            put(text, "set", was);
        }
        int was = x.point(0);
        x.point(was);
        put(text, "point", was);
    }

    private static void asked(StringBuilder text, OneWayTillNoon x) {
        for (int s = 0; s < x.count(1); s++) {
            put(text, "way", x.way(s, 0) + 4 * x.way(s, 730));
        }
        for (int to = 0; to < x.count(0); to++) {
            put(text, "soonest", x.soonest(1, to, 700));
            put(text, "waited", x.waited(1, to, 700));
        }
        put(text, "longest", x.longest(0));
        put(text, "apart", x.apart(0));
        put(text, "walk", x.walk());
        put(text, "bridges", x.bridges());
        put(text, "cost", x.cost());
        put(text, "best", x.best());
        put(text, "turning", x.turning());
        put(text, "bestNoon", x.bestNoon());
        put(text, "lives", x.lives());
        put(text, "pairs", x.pairs());
        put(text, "days", x.days(3, 1));
        put(text, "judge", x.judge());
    }
}
