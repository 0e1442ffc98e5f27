/** Promises 28 to 36, sentence by sentence. */
final class PromisesLateTest {
    private static final Due DUE = new Due();
    private static final String LINE = "k3;s01,10;s12,20;";
    private static final String SEVEN = "s01,1;s01,1;s01,1;s01,1;s01,1;s01,1;s01,1;";
    private static final int LAST = 2879;

    private PromisesLateTest() { }

    public static void main(String[] args) {
        meets();
        pairs();
        lanes();
        lanesRefused();
        shuts();
        days();
        judge();
        image();
        on();
        counts();
        countsMost();
        countsOfRefusals();
        DUE.end();
    }

    private static void meets() {
        DUE.says(28, "MEETS: 1, 0. -1 (one twice, too).");
        OneWayTillNoon x = Due.townOf(LINE, "e02@0,1;e12@10,1;e12@11,1;");
        DUE.due("they do", x.meets(0, 1), 1);
        DUE.due("they do, about", x.meets(1, 0), 1);
        DUE.due("they do not", x.meets(0, 2), 0);
        DUE.due("they do not, about", x.meets(2, 0), 0);
        for (int e = 0; e < 3; e++) {
            DUE.due("one twice", x.meets(e, e), -1);
        }
        int[] none = {3, -1, Integer.MAX_VALUE, Integer.MIN_VALUE};
        for (int nobody : none) {
            DUE.due("one " + nobody, x.meets(nobody, 0), -1);
            DUE.due("other " + nobody, x.meets(0, nobody), -1);
        }
        DUE.due("neither", x.meets(3, 4), -1);
        DUE.due("counted", x.count(11), 12);
        DUE.due("the last ones", eightThatMeet().meets(7, 6), 1);
    }

    private static OneWayTillNoon eightThatMeet() {
        return Due.townOf("k2;s01,1;e01@0,1;e01@0,1;e01@0,1;e01@0,1;e01@0,1;e01@0,1;", "e01@0,1;e01@0,1;");
    }

    private static void pairs() {
        DUE.says(29, "PAIRS.");
        DUE.due("no errands", new OneWayTillNoon().pairs(), 0);
        DUE.due("one", Due.townOf(LINE, "e02@0,1;").pairs(), 0);
        DUE.due("two of three", Due.townOf(LINE, "e02@0,1;e12@10,1;e12@12,1;").pairs(), 2);
        DUE.due("eight that meet", eightThatMeet().pairs(), 0);
        OneWayTillNoon x = eightThatMeet();
        x.shut(0, true);
        DUE.due("eight that never come", x.pairs(), 28);
    }

    private static void lanes() {
        DUE.says(30, "LANES; -9.");
        OneWayTillNoon x = Due.townOf(LINE);
        DUE.due("none needed", x.lanes(0, 0, 30), 0);
        DUE.due("one", x.lanes(1, 0, 20), 1);
        DUE.due("both", x.lanes(2, 0, 30), 3);
        DUE.due("not to be had", x.lanes(2, 0, 29), -9);
        DUE.due("at 2879 one", x.lanes(1, LAST, 20), 2);
        DUE.due("at 2879 both", x.lanes(0, LAST, LAST), -9);
        DUE.due("within 2879", x.lanes(1, 0, LAST), 0);
        DUE.due("within 0", x.lanes(1, 0, 0), -9);
        DUE.due("no streets", new OneWayTillNoon().lanes(0, 0, LAST), -9);
    }

    private static void lanesRefused() {
        DUE.says(30, "-1; -4; -6 (2879; 2879; more than 10 STREETS).");
        OneWayTillNoon x = Due.townOf(LINE);
        DUE.due("corner 3", x.lanes(3, 0, 0), -1);
        DUE.due("corner -1", x.lanes(-1, 0, 0), -1);
        DUE.due("corner 3 and -1", x.lanes(3, -1, -1), -1);
        DUE.due("corner 3 and 2880", x.lanes(3, 2880, 2880), -1);
        DUE.due("at -1", x.lanes(0, -1, 0), -4);
        DUE.due("within -1", x.lanes(0, 0, -1), -4);
        DUE.due("at -1 within 2880", x.lanes(0, -1, 2880), -4);
        DUE.due("at 2880 within -1", x.lanes(0, 2880, -1), -4);
        DUE.due("at 2880", x.lanes(0, 2880, 0), -6);
        DUE.due("within 2880", x.lanes(0, 0, 2880), -6);
        OneWayTillNoon ten = Due.townOf("k2;" + SEVEN, "s01,1;s01,1;s01,1;");
        DUE.due("ten", ten.lanes(0, 0, 1), 0);
        Due.told(ten, "s01,1;");
        DUE.due("eleven", ten.lanes(0, 0, 1), -6);
        DUE.due("eleven and -1", ten.lanes(0, 0, -1), -4);
        DUE.due("eleven and corner 2", ten.lanes(2, 0, 0), -1);
        DUE.due("counted", x.count(16), 2);
    }

    private static void shuts() {
        DUE.says(31, "SHUTS. Refused as told: -1.");
        OneWayTillNoon x = Due.townOf("k2;s01,10;s01,5;e01@0,3;");
        DUE.due("the longer one", x.shuts(0), 0);
        DUE.due("the shorter one", x.shuts(1), 15);
        x.shut(0, true);
        DUE.due("the only one", x.shuts(1), 9000 - 15);
        DUE.due("street 2", x.shuts(2), 1000000001);
        DUE.due("street -1", x.shuts(-1), 1000000001);
        DUE.due("counted", x.count(11), 2);
        DUE.due("no streets", new OneWayTillNoon().shuts(0), 1000000001);
        DUE.due("the last of fourteen", Due.townOf(SEVEN, SEVEN).shuts(13), 0);
        DUE.due("none behind it", Due.townOf(SEVEN, SEVEN).shuts(14), 1000000001);
        OneWayTillNoon y = Due.townOf("k2;s01,1;e01@0,9;e01@0,9;e01@0,9;e01@0,9;e01@0,9;", "e01@0,9;e01@0,9;e01@0,9;");
        DUE.due("the most", y.shuts(0), 216000 - 72);
    }

    private static void days() {
        DUE.says(32, "DAYS. -4; -6 10.");
        OneWayTillNoon x = Due.townOf("k2;s01,10;e01@0,1;");
        DUE.due("one: 563", x.days(1, 0), 10);
        DUE.due("two: 563, 777", x.days(2, 0), 10 + 3000);
        DUE.due("ten: 563, 230 and 15 till noon", x.days(10, 0), 3 * 10 + 7 * 3000);
        DUE.due("0", x.days(0, 0), -4);
        DUE.due("-1", x.days(-1, 0), -4);
        DUE.due("11", x.days(11, 0), -6);
        DUE.due("far above", x.days(Integer.MAX_VALUE, 0), -6);
        DUE.due("no errands", new OneWayTillNoon().days(10, Integer.MIN_VALUE), 0);
        DUE.due("no errands, 11", new OneWayTillNoon().days(11, 0), -6);
        OneWayTillNoon y = Due.townOf("e01@0,9;e01@0,9;e01@0,9;e01@0,9;e01@0,9;e01@0,9;e01@0,9;", "e01@0,9;");
        DUE.due("the most", y.days(10, 7), 2160000);
        DUE.due("any seed", y.days(1, Integer.MIN_VALUE) + y.days(1, Integer.MAX_VALUE), 432000);
    }

    private static void judge() {
        DUE.says(33, "JUDGED; -9.");
        OneWayTillNoon x = Due.townOf("k3;s01,10;s12,20;s20,30;");
        DUE.due("all is well", x.judge(), -9);
        x.point(1);
        DUE.due("corners", x.judge(), 101);
        Due.told(x, "m0,0;");
        DUE.due("a must", x.judge(), 0);
        DUE.due("a new object", new OneWayTillNoon().judge(), 101);
    }

    private static void image() {
        DUE.says(34, "THE IMAGE is taken: how many STREETS.");
        OneWayTillNoon x = new OneWayTillNoon();
        DUE.due("none", x.image(), 0);
        Due.told(x, LINE);
        DUE.due("two", x.image(), 2);
        Due.told(x, SEVEN);
        DUE.due("back to two", x.on(), 2);
        Due.told(x, SEVEN);
        DUE.due("a newer one", x.image(), 9);
        DUE.due("back to nine", x.on(), 9);
        DUE.due("fourteen", Due.townOf(SEVEN, SEVEN).image(), 14);
    }

    private static void on() {
        DUE.says(35, "ON from it: how many STREETS. -3 there is none.");
        OneWayTillNoon x = new OneWayTillNoon();
        DUE.due("none", x.on(), -3);
        Due.told(x, LINE);
        DUE.due("none still", x.on(), -3);
        DUE.due("the town stays", x.count(1), 2);
        DUE.due("counted", x.count(13), 2);
        x.image();
        DUE.due("on", x.on(), 2);
        Due.told(x, SEVEN);
        DUE.due("nine", x.count(1), 9);
        DUE.due("on", x.on(), 2);
        DUE.due("two", x.count(1), 2);
        DUE.due("as often as one likes", x.on(), 2);
        DUE.due("streets behind them are gone", x.street(2, 0), -1);
        OneWayTillNoon y = new OneWayTillNoon();
        y.image();
        Due.told(y, SEVEN);
        DUE.due("an image without streets is one", y.on(), 0);
        DUE.due("none are left", y.count(1), 0);
    }

    private static void counts() {
        DUE.says(36, "0 CORNERS, 1 STREETS, 2 ERRANDS, 3 BROAD ones, 4 MUSTS, 5 SHUT ones, 6 CORNERS in the ROW, 7 bytes on THE TAPE,");
        OneWayTillNoon x = Due.townOf("k9;s01,1b;s01,1b;s01,1b;s01,1;s01,1;s01,1;s01,1;", "m0,1;m1,0;m2,1;m3,0;m4,2;e01@0,1;e01@0,1;");
        for (int s = 0; s < 5; s++) {
            x.shut(s + 1, true);
        }
        for (int i = 0; i < 6; i++) {
            x.corner(8);
        }
        Due.fed(x, "k4;k4;k4");
        int[] due = {9, 7, 2, 3, 4, 5, 6, 8};
        for (int what = 0; what < due.length; what++) {
            DUE.due("count " + what, x.count(what), due[what]);
        }
    }

    private static void countsMost() {
        OneWayTillNoon x = Due.townOf("k10;s01,1b;s01,1b;s01,1b;s01,1b;s01,1b;s01,1b;s01,1b;", "s01,1b;s01,1b;s01,1b;s01,1b;s01,1b;s01,1b;s01,1b;",
                "m0,1;m1,0;m2,1;m3,0;m4,1;m5,0;m6,1;m7,0;m8,1;", "m9,0;m10,1;m11,0;m12,1;m13,0;",
                "e01@0,1;e01@0,1;e01@0,1;e01@0,1;e01@0,1;e01@0,1;e01@0,1;", "e01@0,1;");
        for (int s = 0; s < 14; s++) {
            x.shut(s, true);
        }
        for (int i = 0; i < 10; i++) {
            x.corner(9);
        }
        Due.fed(x, "k".repeat(64));
        int[] due = {10, 14, 8, 14, 14, 14, 10, 64};
        for (int what = 0; what < due.length; what++) {
            DUE.due("the most of " + what, x.count(what), due[what]);
        }
    }

    private static void countsOfRefusals() {
        DUE.says(36, "11 .. 16 REFUSALS -1 .. -6.");
        OneWayTillNoon x = new OneWayTillNoon();
        x.street(0, 0);
        x.shuts(0);
        x.point(1);
        x.set(4, 0);
        x.set(5, 0);
        x.on();
        x.days(0, 0);
        x.days(-1, 0);
        x.days(-1, 0);
        x.days(-1, 0);
        x.days(11, 0);
        int[] due = {3, 2, 1, 4, 0, 1};
        for (int i = 0; i < due.length; i++) {
            DUE.due("count " + (11 + i), x.count(11 + i), due[i]);
        }
        DUE.says(36, "-9 for another what.");
        int[] others = {-1, 8, 9, 10, 17, 18, 100, Integer.MIN_VALUE, Integer.MAX_VALUE};
        for (int other : others) {
            DUE.due("count " + other, x.count(other), -9);
        }
        for (int i = 0; i < due.length; i++) {
            DUE.due("which is no refusal, " + (11 + i), x.count(11 + i), due[i]);
        }
    }
}
