/** Promises 16 to 27, sentence by sentence. */
final class PromisesMiddleTest {
    private static final Due DUE = new Due();
    private static final String LINE = "k3;s01,10;s12,20;";
    private static final String RING = "k3;s01,10;s12,20;s20,30;";
    private static final String TEN = "k2;s01,9;s01,9;s01,9;s01,9;s01,9;s01,9;s01,9;s01,9;s01,9;";

    private PromisesMiddleTest() { }

    public static void main(String[] args) {
        can();
        bridges();
        walk();
        cost();
        best();
        far();
        turning();
        bothWays();
        corner();
        procession();
        processionRefused();
        bestNoon();
        lives();
        DUE.end();
    }

    private static OneWayTillNoon ten() {
        return Due.townOf(TEN, "s01,8;");
    }

    private static OneWayTillNoon eleven() {
        return Due.townOf(TEN, "s01,8;s01,8;");
    }

    private static OneWayTillNoon fourteen() {
        return Due.townOf(TEN, "s01,8;s01,8;s01,8;s01,8;s01,8;");
    }

    private static void can() {
        DUE.says(16, "CAN: 1, 0.");
        DUE.due("a ring", Due.townOf(RING).can(), 1);
        DUE.due("a line", Due.townOf(LINE).can(), 0);
        DUE.due("two corners without streets", Due.townOf("k2;").can(), 0);
        DUE.due("four corners without streets", new OneWayTillNoon().can(), 0);
        DUE.due("fourteen streets", fourteen().can(), 1);
    }

    private static void bridges() {
        DUE.says(17, "BRIDGES (bits).");
        DUE.due("a ring", Due.townOf(RING).bridges(), 0);
        DUE.due("a line", Due.townOf(LINE).bridges(), 3);
        DUE.due("a ring and one more", Due.townOf("k4;s32,1;s01,10;s12,20;s20,30;").bridges(), 1);
        DUE.due("no streets", new OneWayTillNoon().bridges(), 0);
        DUE.due("fourteen streets", fourteen().bridges(), 0);
    }

    private static void walk() {
        DUE.says(18, "WALK (bits).");
        DUE.due("a ring", Due.townOf(RING).walk(), 0);
        DUE.due("a ring told the other way", Due.townOf("k3;s10,10;s21,20;s02,30;").walk(), 7);
        DUE.due("no streets", new OneWayTillNoon().walk(), 0);
        DUE.due("fourteen streets: the first there, the others back", fourteen().walk(), (1 << 14) - 2);
        OneWayTillNoon x = Due.townOf("k4;s01,1;s12,1;s02,1;s23,1;s30,1;");
        x.point(x.walk());
        DUE.due("pointed so all can be come to, as can() has it", x.all(0), x.can());
        DUE.due("which is so", x.can(), 1);
    }

    private static void cost() {
        DUE.says(19, "COST of all ERRANDS.");
        DUE.due("none", new OneWayTillNoon().cost(), 0);
        DUE.due("one", Due.townOf(LINE, "e01@0,9;").cost(), 90);
        DUE.due("three", Due.townOf(LINE, "e01@0,9;e02@1,2;e21@0,1;").cost(), 90 + 60 + 740);
        DUE.due("never", Due.townOf("e01@0,9;").cost(), 27000);
    }

    private static void best() {
        DUE.says(20, "BEST (bits). -6 more than 10 STREETS; -3 no STREETS.");
        DUE.due("best", Due.townOf(LINE, "e20@0,1;").best(), 3);
        DUE.due("one street", Due.townOf("k2;s01,1;e10@0,1;").best(), 1);
        OneWayTillNoon ten = Due.townOf(TEN, "s01,8;e10@0,1;");
        DUE.due("ten", ten.best(), 512);
        Due.told(ten, "m0,1;m1,1;m2,1;m3,1;m4,1;m5,1;m6,1;m7,1;m8,1;m9,0;");
        DUE.due("ten, all but one must", ten.best(), 511);
        DUE.due("eleven", eleven().best(), -6);
        DUE.due("fourteen", fourteen().best(), -6);
        DUE.due("none", new OneWayTillNoon().best(), -3);
        OneWayTillNoon x = new OneWayTillNoon();
        x.best();
        x.far();
        DUE.due("counted", x.count(13), 2);
    }

    private static void far() {
        DUE.says(21, "FAR; -9. -6; -3 likewise.");
        DUE.due("far", Due.townOf("k3;s01,10;s12,20;s02,30;").far(), 3);
        DUE.due("not to be had", Due.townOf(LINE).far(), -9);
        DUE.due("ten", ten().far(), 1);
        DUE.due("eleven", eleven().far(), -6);
        DUE.due("fourteen", fourteen().far(), -6);
        DUE.due("none", new OneWayTillNoon().far(), -3);
    }

    private static void turning() {
        DUE.says(22, "TURNING (bits; the POINTING stays).");
        OneWayTillNoon x = Due.townOf(LINE, "e20@0,1;");
        x.point(1);
        DUE.due("turning", x.turning(), 3);
        DUE.due("stays", x.point(1), 1);
        DUE.due("the cost stays", x.cost(), 3000);
        DUE.due("fourteen streets", withErrandBack().turning(), 1 + 512);
        DUE.due("no streets", new OneWayTillNoon().turning(), 0);
        DUE.due("no errands", pointed(fourteen(), (1 << 14) - 1).turning(), (1 << 14) - 1);
    }

    private static OneWayTillNoon withErrandBack() {
        OneWayTillNoon x = fourteen();
        Due.told(x, "e10@0,1;");
        return x;
    }

    private static OneWayTillNoon pointed(OneWayTillNoon x, int bits) {
        x.point(bits);
        return x;
    }

    private static void bothWays() {
        DUE.says(23, "BOTH WAYS; -9. -4; -6 more than 10 STREETS.");
        OneWayTillNoon x = Due.townOf(LINE, "e20@0,1;");
        DUE.due("both", x.bothWays(30), 3);
        DUE.due("one", x.bothWays(740), 2);
        DUE.due("none", x.bothWays(750), 0);
        DUE.due("not to be had", x.bothWays(29), -9);
        DUE.due("0", x.bothWays(0), -9);
        DUE.due("-1", x.bothWays(-1), -4);
        DUE.due("far below", x.bothWays(Integer.MIN_VALUE), -4);
        DUE.due("far above", x.bothWays(Integer.MAX_VALUE), 0);
        DUE.due("ten", ten().bothWays(0), 0);
        DUE.due("eleven", eleven().bothWays(0), -6);
        DUE.due("fourteen", fourteen().bothWays(Integer.MAX_VALUE), -6);
        DUE.due("eleven and -1", eleven().bothWays(-1), -4);
    }

    private static void corner() {
        DUE.says(24, "A CORNER more of the ROW: how many. -1; -6 10.");
        OneWayTillNoon x = new OneWayTillNoon();
        DUE.due("corner 4", x.corner(4), -1);
        DUE.due("corner -1", x.corner(-1), -1);
        DUE.due("none of them came", x.count(6), 0);
        for (int i = 1; i <= 10; i++) {
            DUE.due("the " + i + "-th", x.corner(i % 4), i);
            DUE.due("so many", x.count(6), i);
        }
        DUE.due("an eleventh", x.corner(0), -6);
        DUE.due("an eleventh that there is not", x.corner(4), -1);
        DUE.due("ten", x.count(6), 10);
        DUE.due("counted", x.count(16), 1);
        OneWayTillNoon y = Due.townOf("k10;");
        DUE.due("corner 9", y.corner(9), 1);
        DUE.due("corner 10", y.corner(10), -1);
        DUE.due("the same again", y.corner(9), 2);
    }

    private static int rowed(OneWayTillNoon x, int... corners) {
        for (int corner : corners) {
            x.corner(corner);
        }
        return x.procession();
    }

    private static void procession() {
        DUE.says(25, "PROCESSION; -9 (the ROW has none then).");
        OneWayTillNoon x = Due.townOf(RING);
        DUE.due("round", rowed(x, 0, 1, 2), 60);
        DUE.due("the row has none", x.count(6), 0);
        DUE.due("it can not be", rowed(x, 0, 2), -9);
        DUE.due("the row has none", x.count(6), 0);
        DUE.due("a new row begins anew", x.corner(1), 1);
        DUE.due("and goes on", rowed(x, 2, 0), 60);
        OneWayTillNoon y = Due.townOf("k2;s01,60;s10,60;");
        DUE.due("ten", rowed(y, 0, 1, 0, 1, 0, 1, 0, 1, 0, 1), 600);
        DUE.due("nine: from 0 to 0", rowed(y, 0, 1, 0, 1, 0, 1, 0, 1, 0), -9);
    }

    private static void processionRefused() {
        DUE.says(25, "-3 fewer than 2 CORNERS in it (it stays).");
        OneWayTillNoon x = Due.townOf("k2;s01,3;s10,4;");
        DUE.due("none", x.procession(), -3);
        DUE.due("one", rowed(x, 1), -3);
        DUE.due("it stays", x.count(6), 1);
        DUE.due("one still", x.procession(), -3);
        DUE.due("a second", x.corner(0), 2);
        DUE.due("two", x.procession(), 7);
        DUE.due("none again", x.procession(), -3);
        DUE.due("counted", x.count(13), 4);
    }

    private static void bestNoon() {
        DUE.says(26, "BEST NOON.");
        OneWayTillNoon x = Due.townOf("k2;s01,10;e01@700,1;");
        DUE.due("best", x.bestNoon(), 720);
        Due.told(x, "e10@1000,1;");
        DUE.due("with one back", x.bestNoon(), 720);
        Due.told(x, "e10@600,1;");
        DUE.due("with one back that waits, or one that is late", x.bestNoon(), 720);
        DUE.due("the noon stays", x.set(0, 720), 720);
        DUE.due("no errands", new OneWayTillNoon().bestNoon(), 0);
        DUE.due("1380", Due.townOf("k2;s01,1;e01@1320,9;").bestNoon(), 1380);
        DUE.due("0", Due.townOf("k2;s10,1;e01@0,9;").bestNoon(), 0);
        DUE.due("60", Due.townOf("k2;s01,1;e01@0,9;").bestNoon(), 60);
    }

    private static void lives() {
        DUE.says(27, "LIVES.");
        DUE.due("no errands", new OneWayTillNoon().lives(), 0);
        DUE.due("where one goes", Due.townOf("k10;s01,1;e09@0,1;").lives(), 9);
        DUE.due("between", Due.townOf("k3;s10,10;s12,20;e20@0,1;e02@0,1;").lives(), 1);
        OneWayTillNoon x = Due.townOf("k3;s10,10;s12,20;e20@0,1;e02@0,1;");
        x.shut(1, true);
        DUE.due("of 0 and 2 the least", x.lives(), 0);
    }
}
