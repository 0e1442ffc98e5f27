/** Promises 1 to 15, sentence by sentence. */
final class PromisesEarlyTest {
    private static final Due DUE = new Due();
    private static final String RING = "k3;s01,10;s12,20b;s20,30;";
    private static final int LAST = 2879;

    private PromisesEarlyTest() { }

    public static void main(String[] args) {
        newObject();
        feed();
        feedRefused();
        town();
        street();
        errand();
        set();
        setRefused();
        point();
        shut();
        way();
        soonest();
        waited();
        road();
        roadRefused();
        all();
        longest();
        apart();
        DUE.end();
    }

    private static void newObject() {
        DUE.says(1, "Four CORNERS without STREETS.");
        OneWayTillNoon x = new OneWayTillNoon();
        DUE.due("corners", x.count(0), 4);
        DUE.due("streets", x.count(1), 0);
        for (int what = 2; what <= 7; what++) {
            DUE.due("count " + what, x.count(what), 0);
        }
        for (int what = 11; what <= 16; what++) {
            DUE.due("refusals " + what, x.count(what), 0);
        }
        DUE.due("pointing", x.point(0), 0);
        DUE.due("no image", x.on(), -3);
        DUE.due("corners are apart", x.apart(0), 12);
        OneWayTillNoon y = Twins.made();
        DUE.due("one object", y.count(1), 6);
        DUE.due("is not another", new OneWayTillNoon().count(1), 0);
    }

    private static void feed() {
        DUE.says(2, "n (1 .. 8) bytes come, the lowest first: how many THE TAPE has.");
        for (int n = 1; n <= 8; n++) {
            OneWayTillNoon x = new OneWayTillNoon();
            DUE.due("feed " + n, x.feed(n, -1L), n);
            DUE.due("and as many more", x.feed(n, 0), 2 * n);
            DUE.due("the tape has", x.count(7), 2 * n);
        }
        OneWayTillNoon x = new OneWayTillNoon();
        DUE.due("k6;k7;k8 by its lowest three alone", x.feed(3, Due.packed("k6;k7;k8")), 3);
        DUE.due("one statement", x.town(), 1);
        DUE.due("six corners", x.count(0), 6);
        DUE.due("one by one", x.feed(1, 'k') + x.feed(1, '9') + x.feed(1, ';'), 1 + 2 + 3);
        DUE.due("one statement more", x.town(), 1);
        DUE.due("nine corners", x.count(0), 9);
        DUE.due("all eight", x.feed(8, Due.packed("k6;k07;k")), 8);
        DUE.due("and on", x.feed(2, Due.packed("8;")), 10);
        DUE.due("three statements", x.town(), 3);
        DUE.due("eight corners", x.count(0), 8);
        DUE.due("higher bytes of 255 do not count", x.feed(3, -1L << 24 | Due.packed("k5;")), 3);
        DUE.due("they are not there", x.town(), 1);
    }

    private static void feedRefused() {
        DUE.says(2, "-4; -6 (n; above 64).");
        OneWayTillNoon x = new OneWayTillNoon();
        DUE.due("0", x.feed(0, 0), -4);
        DUE.due("-1", x.feed(-1, 0), -4);
        DUE.due("9", x.feed(9, 0), -6);
        for (int i = 1; i <= 7; i++) {
            x.feed(8, 0);
        }
        x.feed(1, 0);
        DUE.due("57 and 8", x.feed(8, 0), -6);
        DUE.due("none of them came", x.count(7), 57);
        DUE.due("57 and 7", x.feed(7, 0), 64);
        DUE.due("64 and 1", x.feed(1, 0), -6);
        DUE.due("64 and 0", x.feed(0, 0), -4);
        DUE.due("64", x.count(7), 64);
        DUE.due("below", x.count(14), 3);
        DUE.due("above", x.count(16), 3);
    }

    private static void town() {
        DUE.says(3, "THE TAPE becomes a TOWN, and has none (by a FAULT, too): how many STATEMENTS;");
        OneWayTillNoon x = new OneWayTillNoon();
        DUE.due("one", Due.told(x, "k5;"), 1);
        DUE.due("the tape has none", x.count(7), 0);
        DUE.due("three", Due.told(x, "s01,1;e01@0,1;m0,0;"), 3);
        DUE.due("twenty-one", Due.told(x, "k5;".repeat(21)), 21);
        DUE.due("the tape has none again", x.count(7), 0);
        DUE.due("a fault of kind 1", Due.told(x, "k5;k"), -1004);
        DUE.due("the tape has none", x.count(7), 0);
        DUE.due("a fault of kind 2", Due.told(x, "k5;k1;"), -2003);
        DUE.due("the tape has none", x.count(7), 0);
        DUE.due("so the next text begins anew", Due.told(x, "k6;"), 1);
        DUE.says(3, "the FAULT (nothing is counted).");
        OneWayTillNoon y = new OneWayTillNoon();
        String[] faulty = {"", "x", "k", "k1;", "k99;", "s04,1;", "m0,1;", "e01@1440,1;", "s01,0;"};
        int[] faults = {-1000, -1000, -1001, -2000, -2000, -2000, -2000, -2000, -2000};
        for (int i = 0; i < faulty.length; i++) {
            DUE.due("\"" + faulty[i] + "\"", Due.told(y, faulty[i]), faults[i]);
        }
        for (int what = 11; what <= 16; what++) {
            DUE.due("count " + what, y.count(what), 0);
        }
    }

    private static void street() {
        DUE.says(4, "Of a STREET: 0 a, 1 b, 2 MINUTES, 3 1 BROAD, 4 MUST (2 none), 5 1 SHUT. -1; -2.");
        OneWayTillNoon x = Due.townOf("s23,7b;s10,60;s01,1;m1,1;m2,0;");
        x.shut(1, true);
        int[][] due = {{2, 3, 7, 1, 2, 0}, {1, 0, 60, 0, 1, 1}, {0, 1, 1, 0, 0, 0}};
        for (int s = 0; s < due.length; s++) {
            for (int what = 0; what < 6; what++) {
                DUE.due("street " + s + ", " + what, x.street(s, what), due[s][what]);
            }
        }
        DUE.due("street 3", x.street(3, 0), -1);
        DUE.due("street -1", x.street(-1, 0), -1);
        DUE.due("what 6", x.street(0, 6), -2);
        DUE.due("what -1", x.street(0, -1), -2);
        DUE.due("both", x.street(3, 6), -1);
        DUE.due("a new object", new OneWayTillNoon().street(0, 0), -1);
    }

    private static void errand() {
        DUE.says(5, "Of an ERRAND: 0 FROM, 1 TO, 2 AT, 3 WORTH. -1; -2.");
        OneWayTillNoon x = Due.townOf("e23@7,9;e10@1439,1;");
        int[][] due = {{2, 3, 7, 9}, {1, 0, 1439, 1}};
        for (int e = 0; e < due.length; e++) {
            for (int what = 0; what < 4; what++) {
                DUE.due("errand " + e + ", " + what, x.errand(e, what), due[e][what]);
            }
        }
        DUE.due("errand 2", x.errand(2, 0), -1);
        DUE.due("errand -1", x.errand(-1, 0), -1);
        DUE.due("what 4", x.errand(0, 4), -2);
        DUE.due("what -1", x.errand(0, -1), -2);
        DUE.due("both", x.errand(2, 4), -1);
        DUE.due("a new object", new OneWayTillNoon().errand(0, 0), -1);
    }

    private static void set() {
        DUE.says(6, "A SETTING: what it was.");
        OneWayTillNoon x = new OneWayTillNoon();
        int[][] values = {{720, 0, 1439, 5}, {0, 4, 1, 3, 2, 0}, {240, 10, 720, 11}, {0, 9, 1, 8}};
        for (int what = 0; what < 4; what++) {
            for (int i = 1; i < values[what].length; i++) {
                DUE.due("setting " + what + " to " + values[what][i], x.set(what, values[what][i]), values[what][i - 1]);
            }
        }
        DUE.due("the same again", x.set(0, 5), 5);
    }

    private static void setRefused() {
        DUE.says(6, "-2; -4; -6.");
        OneWayTillNoon x = new OneWayTillNoon();
        int[] least = {0, 0, 10, 0};
        int[] greatest = {1439, 4, 720, 9};
        int[] was = {720, 0, 240, 0};
        for (int what = 0; what < 4; what++) {
            DUE.due("below", x.set(what, least[what] - 1), -4);
            DUE.due("far below", x.set(what, Integer.MIN_VALUE), -4);
            DUE.due("above", x.set(what, greatest[what] + 1), -6);
            DUE.due("far above", x.set(what, Integer.MAX_VALUE), -6);
            DUE.due("it was", x.set(what, was[what]), was[what]);
        }
        DUE.due("4", x.set(4, 0), -2);
        DUE.due("-1", x.set(-1, 0), -2);
        DUE.due("4 and below", x.set(4, Integer.MIN_VALUE), -2);
    }

    private static void point() {
        DUE.says(7, "The POINTING: what it was.");
        OneWayTillNoon x = Due.townOf(RING);
        int was = 0;
        for (int bits = 7; bits >= 0; bits--) {
            DUE.due("point " + bits, x.point(bits), was);
            was = bits;
        }
        x.point(5);
        Due.told(x, "s01,1;");
        DUE.due("a street more points 0", x.point(15), 5);
        DUE.due("fourteen", fourteen().point((1 << 14) - 1), 0);
        DUE.says(7, "-1 bits of STREETS that there are not (below 0).");
        OneWayTillNoon y = Due.townOf(RING);
        int[] none = {8, 9, 16, 1 << 14, 1 << 30, Integer.MAX_VALUE, -1, -8, Integer.MIN_VALUE};
        for (int bits : none) {
            DUE.due("point " + bits, y.point(bits), -1);
        }
        DUE.due("it stays", y.point(0), 0);
        DUE.due("no streets, none", new OneWayTillNoon().point(0), 0);
        DUE.due("no streets, one", new OneWayTillNoon().point(1), -1);
        DUE.due("fourteen streets, a fifteenth", fourteen().point(1 << 14), -1);
    }

    private static OneWayTillNoon fourteen() {
        String seven = "s01,1;s01,1;s01,1;s01,1;s01,1;s01,1;s01,1;";
        return Due.townOf(seven, seven);
    }

    private static void shut() {
        DUE.says(8, "It is SHUT, or not: 1; 0 it was so. -1.");
        OneWayTillNoon x = fourteen();
        for (int s = 0; s < 14; s += 13) {
            DUE.due("open as it was", x.shut(s, false), 0);
            DUE.due("shut", x.shut(s, true), 1);
            DUE.due("it is", x.street(s, 5), 1);
            DUE.due("shut as it was", x.shut(s, true), 0);
            DUE.due("it is still", x.street(s, 5), 1);
            DUE.due("no other is", x.street(6, 5), 0);
        }
        DUE.due("two", x.count(5), 2);
        DUE.due("open", x.shut(0, false), 1);
        DUE.due("one", x.count(5), 1);
        DUE.due("street 14", x.shut(14, true), -1);
        DUE.due("street -1", x.shut(-1, true), -1);
        DUE.due("street 14, open", x.shut(14, false), -1);
        DUE.due("still one", x.count(5), 1);
        DUE.due("no streets", new OneWayTillNoon().shut(0, true), -1);
    }

    private static void way() {
        DUE.says(9, "How it may be gone at a MINUTE (0 .. 2879): 0 a to b, 1 b to a, 2 both, 3 not. -1; -4; -6.");
        OneWayTillNoon x = Due.townOf(RING);
        x.point(4);
        DUE.due("a to b", x.way(0, 0), 0);
        DUE.due("b to a", x.way(2, 0), 1);
        DUE.due("b to a at 2879", x.way(0, LAST), 1);
        DUE.due("a to b at 2879", x.way(2, LAST), 0);
        x.set(1, 1);
        DUE.due("both", x.way(1, 0), 2);
        x.shut(1, true);
        DUE.due("not", x.way(1, 0), 3);
        x.shut(0, true);
        DUE.due("not, either", x.way(0, LAST), 3);
        DUE.due("street 3", x.way(3, 0), -1);
        DUE.due("street -1", x.way(-1, 0), -1);
        DUE.due("-1", x.way(0, -1), -4);
        DUE.due("2880", x.way(0, 2880), -6);
        DUE.due("street 3 and -1", x.way(3, -1), -1);
        DUE.due("street 3 and 2880", x.way(3, 2880), -1);
    }

    private static void soonest() {
        DUE.says(10, "SOONEST; -9. -1 either; -4; -6 2879.");
        OneWayTillNoon x = Due.townOf(RING);
        DUE.due("soonest", x.soonest(0, 2, 0), 30);
        DUE.due("with waiting", x.soonest(1, 0, 710), 730);
        DUE.due("at 2879", x.soonest(0, 2, LAST), 2909);
        DUE.due("where one is", x.soonest(2, 2, LAST), LAST);
        DUE.due("never", x.soonest(0, 1, 2860), -9);
        DUE.due("no from", x.soonest(3, 0, 0), -1);
        DUE.due("no from below", x.soonest(-1, 0, 0), -1);
        DUE.due("no to", x.soonest(0, 3, 0), -1);
        DUE.due("no to below", x.soonest(0, -1, 0), -1);
        DUE.due("-1", x.soonest(0, 1, -1), -4);
        DUE.due("2880", x.soonest(0, 1, 2880), -6);
        DUE.due("2880 where one is", x.soonest(0, 0, 2880), -6);
    }

    private static void waited() {
        DUE.says(11, "WAITED; -9 never. -1 either; -4; -6 2879.");
        OneWayTillNoon x = Due.townOf(RING);
        DUE.due("none", x.waited(0, 2, 0), 0);
        DUE.due("ten", x.waited(1, 0, 710), 10);
        DUE.due("none at 2879", x.waited(0, 2, LAST), 0);
        DUE.due("none where one is", x.waited(2, 2, LAST), 0);
        DUE.due("never", x.waited(0, 1, 2860), -9);
        DUE.due("no from", x.waited(3, 0, 0), -1);
        DUE.due("no from below", x.waited(-1, 0, 0), -1);
        DUE.due("no to", x.waited(0, 3, 0), -1);
        DUE.due("no to below", x.waited(0, -1, 0), -1);
        DUE.due("-1", x.waited(0, 1, -1), -4);
        DUE.due("2880", x.waited(0, 1, 2880), -6);
    }

    private static void road() {
        DUE.says(12, "The i-th STREET of the ROAD (i -1: how many); -9 none such, never.");
        OneWayTillNoon x = Due.townOf("k10;s98,1;s87,1;s76,1;s65,1;s54,1;s43,1;s32,1;s21,1;s10,1;");
        DUE.due("how many", x.road(9, 0, 0, -1), 9);
        for (int i = 0; i < 9; i++) {
            DUE.due("the " + i + "-th", x.road(9, 0, 0, i), i);
            DUE.due("the " + i + "-th back", x.road(0, 9, 0, i), 8 - i);
        }
        DUE.due("the 9-th", x.road(9, 0, 0, 9), -9);
        DUE.due("by far none such", x.road(9, 0, 0, Integer.MAX_VALUE), -9);
        DUE.due("none where one is", x.road(5, 5, 0, -1), 0);
        DUE.due("nor the 0-th", x.road(5, 5, 0, 0), -9);
        DUE.due("how many from noon on", x.road(0, 9, 720, -1), 9);
        x.shut(4, true);
        DUE.due("never: how many", x.road(9, 0, 0, -1), -9);
        DUE.due("never: the 0-th", x.road(9, 0, 0, 0), -9);
        DUE.due("a shorter one", x.road(9, 6, 0, -1), 3);
        DUE.due("its last", x.road(9, 6, 0, 2), 2);
        DUE.due("behind it", x.road(9, 6, 0, 3), -9);
    }

    private static void roadRefused() {
        DUE.says(12, "-1 either; -4 (i, too); -6 2879.");
        OneWayTillNoon x = Due.townOf(RING);
        DUE.due("no from", x.road(3, 0, 0, 0), -1);
        DUE.due("no from below", x.road(-1, 0, 0, 0), -1);
        DUE.due("no to", x.road(0, 3, 0, 0), -1);
        DUE.due("no to below", x.road(0, -1, 0, 0), -1);
        DUE.due("-1", x.road(0, 1, -1, 0), -4);
        DUE.due("i -2", x.road(0, 1, 0, -2), -4);
        DUE.due("i -2 where one is", x.road(0, 0, 0, -2), -4);
        DUE.due("i -2 and 2880", x.road(0, 1, 2880, -2), -4);
        DUE.due("2880", x.road(0, 1, 2880, 0), -6);
        DUE.due("2880 and how many", x.road(0, 1, 2880, -1), -6);
        DUE.due("at 2879", x.road(0, 1, LAST, -1), -9);
        DUE.due("below", x.count(14), 4);
    }

    private static void all() {
        DUE.says(13, "ALL: 1, 0. -4; -6 2879.");
        OneWayTillNoon x = Due.townOf(RING);
        DUE.due("all", x.all(0), 1);
        DUE.due("all at 2879", x.all(LAST), 1);
        x.point(1);
        DUE.due("not all", x.all(0), 0);
        DUE.due("-1", x.all(-1), -4);
        DUE.due("2880", x.all(2880), -6);
    }

    private static void longest() {
        DUE.says(14, "LONGEST; -9. -4; -6 2879.");
        OneWayTillNoon x = Due.townOf(RING);
        DUE.due("longest", x.longest(0), 50);
        DUE.due("longest at 2879", x.longest(LAST), 50);
        x.point(1);
        DUE.due("not all", x.longest(0), -9);
        DUE.due("-1", x.longest(-1), -4);
        DUE.due("2880", x.longest(2880), -6);
    }

    private static void apart() {
        DUE.says(15, "APART: how many. -4; -6 2879.");
        OneWayTillNoon x = Due.townOf(RING);
        DUE.due("none", x.apart(0), 0);
        DUE.due("none at 2879", x.apart(LAST), 0);
        x.point(1);
        DUE.due("0 goes nowhere, 2 to 0 alone", x.apart(0), 3);
        DUE.due("-1", x.apart(-1), -4);
        DUE.due("2880", x.apart(2880), -6);
    }
}
