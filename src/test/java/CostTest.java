/** Promises 19 to 23, 26, 27, 31 and 32: cost, best, far, turning, bothWays, bestNoon, lives, shuts, days. */
final class CostTest {
    private static final Due DUE = new Due();
    private static final String RING = "k3;s01,10;s12,20;s20,30;";
    private static final String ELEVEN = "s01,1;s01,1;s01,1;s01,1;s01,1;s01,1;s01,1;s01,1;s01,1;";

    private CostTest() { }

    public static void main(String[] args) {
        costs();
        bestPointings();
        farPointings();
        turned();
        bothWays();
        noons();
        homes();
        shuts();
        days();
        manyStreets();
        DUE.end();
    }

    private static void costs() {
        OneWayTillNoon x = Due.townOf(RING);
        DUE.due("no errands", x.cost(), 0);
        Due.told(x, "e02@715,2;e10@710,3;");
        DUE.due("cost", x.cost(), 35 * 2 + 20 * 3);
        x.set(1, 4);
        DUE.due("cost, still", x.cost(), 30 * 2 + 50 * 3);
        x.shut(0, true);
        DUE.due("cost, one never", x.cost(), 3000 * 2 + 50 * 3);
        DUE.due("never", Due.townOf("k3;s01,1;e02@1439,9;").cost(), 27000);
    }

    private static void bestPointings() {
        OneWayTillNoon x = Due.townOf("k2;s01,10;");
        DUE.due("no errands: the least", x.best(), 0);
        Due.told(x, "m0,1;");
        DUE.due("the least that keeps musts", x.best(), 1);
        Due.told(x, "m0,2;e10@0,1;");
        DUE.due("turned", x.best(), 1);
        DUE.due("the pointing stays", x.point(0), 0);
        Due.told(x, "m0,0;");
        DUE.due("a must", x.best(), 0);
        x.set(0, 0);
        Due.told(x, "m0,2;");
        DUE.due("noon at once", x.best(), 0);
        x.set(1, 4);
        DUE.due("still", x.best(), 1);
        x.set(1, 3);
        x.set(3, 5);
        DUE.due("odd day, noon at once", x.best(), 1);
        OneWayTillNoon y = Due.townOf("k3;s01,10;s12,10;s12,5;e20@0,1;e02@0,1;");
        DUE.due("neither errand alone", y.best(), 2);
        DUE.due("no streets", new OneWayTillNoon().best(), -3);
    }

    private static void farPointings() {
        OneWayTillNoon x = Due.townOf(RING);
        DUE.due("of two the least", x.far(), 0);
        Due.told(x, "m0,1;");
        DUE.due("by a must", x.far(), 7);
        DUE.due("the pointing stays", x.point(0), 0);
        Due.told(x, "m1,0;");
        DUE.due("none", x.far(), -9);
        OneWayTillNoon y = Due.townOf("k2;s01,9;s01,5;s01,1;");
        DUE.due("least longest", y.far(), 2);
        y.shut(2, true);
        DUE.due("of those that are not shut", y.far(), 1);
        y.set(1, 4);
        DUE.due("still", y.far(), 1);
        y.shut(0, true);
        DUE.due("one alone", y.far(), -9);
        DUE.due("no streets", new OneWayTillNoon().far(), -3);
        OneWayTillNoon z = Due.townOf("k3;s01,1;s12,1;s20,1;s01,60;", "m0,0;m1,0;m2,0;");
        DUE.due("at minute 0 itself", z.set(0, 1), 720);
        DUE.due("the last one back or not", z.far(), 0);
        Due.told(z, "s10,2;");
        DUE.due("short ways back", z.far(), 0);
        Due.told(z, "m4,1;m3,1;");
        DUE.due("by musts", z.far(), 8 + 16);
        OneWayTillNoon w = Due.townOf("k2;s01,1b;s01,9;s01,5;", "m1,0;");
        w.set(1, 2);
        w.set(0, 1);
        w.set(2, 10);
        DUE.due("as it points at 0", w.far(), 1);
    }

    private static void turned() {
        OneWayTillNoon x = Due.townOf("k3;s01,10;s12,10;e20@0,1;");
        DUE.due("a second round", x.turning(), 3);
        DUE.due("the pointing stays", x.point(0), 0);
        Due.told(x, "m1,0;");
        DUE.due("a must keeps it", x.turning(), 0);
        Due.told(x, "m1,1;m0,0;");
        DUE.due("a must that is not kept yet", x.turning(), 2);
        Due.told(x, "m0,2;m1,2;");
        x.point(2);
        DUE.due("from the pointing as it is", x.turning(), 3);
        DUE.due("no streets", new OneWayTillNoon().turning(), 0);
    }

    private static void bothWays() {
        OneWayTillNoon x = Due.townOf("k3;s01,10;s12,10;e20@0,1;");
        DUE.due("cost", x.cost(), 740);
        DUE.due("none needed", x.bothWays(740), 0);
        DUE.due("no more than told", x.bothWays(739), 2);
        DUE.due("as much", x.bothWays(730), 2);
        DUE.due("two", x.bothWays(729), 3);
        DUE.due("two, no less", x.bothWays(20), 3);
        DUE.due("not to be had", x.bothWays(19), -9);
        DUE.due("greatest", x.bothWays(Integer.MAX_VALUE), 0);
        DUE.due("below", x.bothWays(-1), -4);
        x.shut(0, true);
        DUE.due("shut stays shut", x.bothWays(2999), -9);
        DUE.due("the cost is as it was", x.cost(), 3000);
        OneWayTillNoon y = Due.townOf("k3;s01,10;s12,10;s02,30;e20@0,1;");
        DUE.due("fewer is ahead of less", y.bothWays(30), 4);
        DUE.due("no streets", new OneWayTillNoon().bothWays(0), 0);
    }

    private static void noons() {
        OneWayTillNoon x = Due.townOf("k2;s01,10;e01@130,1;");
        DUE.due("after the errand", x.bestNoon(), 180);
        DUE.due("noon stays", x.set(0, 720), 720);
        Due.told(x, "e10@130,9;");
        DUE.due("ahead of the dearer", x.bestNoon(), 180);
        Due.told(x, "e10@1439,9;");
        DUE.due("as well", x.bestNoon(), 180);
        x.point(1);
        DUE.due("turned", x.bestNoon(), 180);
        x.set(1, 4);
        DUE.due("still: the least", x.bestNoon(), 0);
        DUE.due("the last", Due.townOf("k2;s01,10;e01@1379,1;").bestNoon(), 1380);
        DUE.due("none is late enough", Due.townOf("k2;s01,10;e01@1380,1;").bestNoon(), 0);
    }

    private static void homes() {
        OneWayTillNoon x = Due.townOf(RING);
        DUE.due("no errands", x.lives(), 0);
        Due.told(x, "e01@0,1;");
        DUE.due("where one goes", x.lives(), 1);
        Due.told(x, "e02@0,2;");
        DUE.due("between", x.lives(), 1);
        Due.told(x, "e12@0,2;");
        DUE.due("dearer", x.lives(), 2);
        x.point(7);
        DUE.due("turned", x.lives(), 2);
        DUE.due("errands stay", x.errand(0, 0), 0);
        OneWayTillNoon y = Due.townOf("k4;e23@0,1;e32@0,1;");
        DUE.due("of several the least", y.lives(), 2);
    }

    private static void shuts() {
        OneWayTillNoon x = Due.townOf(RING, "e01@0,2;");
        DUE.due("shuts", x.shuts(0), 2 * (770 - 10));
        DUE.due("without need", x.shuts(1), 0);
        DUE.due("it is not shut", x.street(0, 5), 0);
        DUE.due("the cost stays", x.cost(), 20);
        x.shut(2, true);
        DUE.due("with another shut", x.shuts(0), 2 * (3000 - 10));
        DUE.due("shut already", x.shuts(2), 0);
        DUE.due("no such", x.shuts(3), 1000000001);
        DUE.due("no such below", x.shuts(-1), 1000000001);
        DUE.due("counted", x.count(11), 2);
    }

    private static void days() {
        OneWayTillNoon x = Due.townOf("k2;s01,10;e01@0,1;");
        DUE.due("drawn 563", x.days(1, 0), 10);
        DUE.due("drawn 777", x.days(2, 0), 3010);
        DUE.due("drawn 1206", x.days(3, 0), 6010);
        DUE.due("errands stay", x.errand(0, 2), 0);
        Due.told(x, "e01@0,2;");
        DUE.due("by numbers", x.days(1, 0), 10 + 2 * 3000);
        DUE.due("none", x.days(0, 0), -4);
        DUE.due("eleven", x.days(11, 0), -6);
        DUE.due("no errands", new OneWayTillNoon().days(10, -1), 0);
        DUE.due("refusals", x.count(14) + x.count(16), 2);
        OneWayTillNoon y = Due.townOf("k2;s01,10;e10@0,1;");
        DUE.due("drawn 563, 777, 1206, 1139", y.days(4, 0), 730 - 563 + 3 * 10);
        DUE.due("drawn 1305, 453, 609, 90", y.days(4, 1), 10 + 3 * 730 - 453 - 609 - 90);
        DUE.due("drawn 1217, 307, 343, 1404", y.days(4, -3), 10 + 2 * 730 - 307 - 343 + 10);
        DUE.due("without its sign's bit", y.days(4, Integer.MIN_VALUE), 730 - 563 + 3 * 10);
        y.set(1, 3);
        y.set(3, 1);
        DUE.due("an odd day stays one", y.days(4, 0), 10 + 3 * 3000);
    }

    private static void manyStreets() {
        OneWayTillNoon x = Due.townOf("k2;s01,1;", ELEVEN, "e10@0,1;");
        DUE.due("ten: best", x.best(), 1);
        DUE.due("ten: far", x.far(), 1);
        DUE.due("ten: both ways", x.bothWays(1), 1);
        DUE.due("ten: lanes", x.lanes(1, 0, 1), 1);
        Due.told(x, "s01,1;");
        DUE.due("eleven: best", x.best(), -6);
        DUE.due("eleven: far", x.far(), -6);
        DUE.due("eleven: both ways", x.bothWays(1), -6);
        DUE.due("eleven: below is ahead", x.bothWays(-1), -4);
        DUE.due("eleven: lanes", x.lanes(1, 0, 1), -6);
        DUE.due("eleven: turning", x.turning(), 1);
        DUE.due("refusals", x.count(16), 4);
    }
}
