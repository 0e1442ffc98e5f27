/** Promises 13 to 18, 24, 25 and 33: all, longest, apart, can, bridges, walk, corner, procession, judge. */
final class PlanTest {
    private static final Due DUE = new Due();
    private static final String RING = "k3;s01,10;s12,20;s20,30;";

    private PlanTest() { }

    public static void main(String[] args) {
        frozen();
        rulesFrozen();
        canAndBridges();
        walks();
        processions();
        judged();
        DUE.end();
    }

    private static void dueFrozen(OneWayTillNoon x, int minute, int all, int longest, int apart) {
        DUE.due("all at " + minute, x.all(minute), all);
        DUE.due("longest at " + minute, x.longest(minute), longest);
        DUE.due("apart at " + minute, x.apart(minute), apart);
    }

    private static void frozen() {
        OneWayTillNoon x = Due.townOf(RING);
        dueFrozen(x, 0, 1, 50, 0);
        dueFrozen(x, 2879, 1, 50, 0);
        Due.told(x, "s01,1;");
        dueFrozen(x, 0, 1, 50, 0);
        dueFrozen(x, 720, 1, 50, 0);
        Due.told(x, "s21,1;");
        dueFrozen(x, 0, 1, 50, 0);
        dueFrozen(x, 720, 1, 50, 0);
        x.point(4);
        dueFrozen(x, 0, 0, -9, 2);
        x.point(4 + 16);
        dueFrozen(x, 0, 0, -9, 3);
        x.point(8);
        dueFrozen(x, 0, 1, 30, 0);
        x.point(0);
        x.shut(1, true);
        dueFrozen(x, 0, 0, -9, 3);
        x.point(1);
        dueFrozen(x, 719, 0, -9, 2);
        dueFrozen(x, 720, 0, -9, 2);
        DUE.due("all below", x.all(-1), -4);
        DUE.due("all above", x.all(2880), -6);
        DUE.due("longest below", x.longest(-1), -4);
        DUE.due("longest above", x.longest(2880), -6);
        DUE.due("apart below", x.apart(-1), -4);
        DUE.due("apart above", x.apart(2880), -6);
        DUE.due("refusals -4", x.count(14), 3);
        DUE.due("refusals -6", x.count(16), 3);
        dueFrozen(Due.townOf("k10;"), 0, 0, -9, 90);
    }

    private static void rulesFrozen() {
        OneWayTillNoon x = Due.townOf("k3;s01,10b;s12,20b;");
        dueFrozen(x, 0, 0, -9, 3);
        x.set(1, 1);
        dueFrozen(x, 0, 1, 30, 0);
        x.shut(0, true);
        dueFrozen(x, 0, 0, -9, 4);
    }

    private static void duePlan(String text, int can, int bridges, int walk) {
        OneWayTillNoon x = Due.townOf(text);
        for (int rule = 0; rule <= 4; rule++) {
            x.set(1, rule);
            x.set(3, rule);
            DUE.due("can of " + text, x.can(), can);
            DUE.due("bridges of " + text, x.bridges(), bridges);
            DUE.due("walk of " + text, x.walk(), walk);
            for (int s = 0; s < x.count(1); s++) {
                x.shut(s, true);
            }
            x.point((1 << x.count(1)) - 1);
        }
    }

    private static void canAndBridges() {
        duePlan("k2;", 0, 0, 0);
        duePlan("k2;s01,1b;", 0, 1, 0);
        duePlan("k2;s01,1;s01,1;", 1, 0, 2);
        duePlan(RING, 1, 0, 0);
        duePlan("k4;s01,10;s12,20;s20,30;", 0, 0, 0);
        duePlan("k4;s01,1;s12,1;s20,1;s23,1;", 0, 8, 0);
        duePlan("k4;s01,1;s12,1;s20,1;s23,1;s23,1;", 1, 0, 16);
        duePlan("k6;s01,1;s12,1;s20,1;s34,1;s45,1;s35,1;", 0, 0, 0);
        duePlan("k6;s01,1;s12,1;s20,1;s34,1;s45,1;s35,1;s25,1;", 0, 64, 16 + 8 + 0);
    }

    private static void walks() {
        duePlan("k5;s10,1;s21,1;s20,1;s32,1;s34,1;", 0, 8 + 16, 1 + 2 + 8);
        duePlan("k4;s32,1;", 0, 1, 0);
        duePlan("k10;s98,1;s87,1;s76,1;s65,1;s54,1;s43,1;s32,1;s21,1;s10,1;", 0, 511, 511);
        OneWayTillNoon x = Due.townOf("k10;s98,1;s87,1;s76,1;s65,1;s54,1;s43,1;s32,1;s21,1;s10,1;", "s90,1;s90,1;s19,1;s91,1;s59,1;");
        DUE.due("fourteen streets and ten corners: walk", x.walk(), 511 + 2048 + 8192);
        DUE.due("fourteen streets and ten corners: bridges", x.bridges(), 0);
        DUE.due("fourteen streets and ten corners: can", x.can(), 1);
        DUE.due("hanging together elsewhere than at 0", Due.townOf("k3;s12,1;s12,1;").can(), 0);
        duePlan("k4;s02,1;s01,1;s12,1;s32,1;s31,1;", 1, 0, 2 + 4 + 16);
    }

    private static int rowed(OneWayTillNoon x, int... corners) {
        for (int i = 0; i < corners.length; i++) {
            DUE.due("corner " + corners[i], x.corner(corners[i]), i + 1);
        }
        int answer = x.procession();
        DUE.due("the row has none", x.count(6), 0);
        return answer;
    }

    private static void processions() {
        OneWayTillNoon x = Due.townOf(RING);
        DUE.due("no row", x.procession(), -3);
        DUE.due("round", rowed(x, 0, 1, 2), 60);
        DUE.due("round from elsewhere", rowed(x, 1, 2, 0, 1, 2, 0), 120);
        DUE.due("wrong way round", rowed(x, 2, 1, 0), -9);
        DUE.due("not back again", rowed(x, 0, 1), -9);
        DUE.due("on the spot", rowed(x, 0, 0), -9);
        DUE.due("one", x.corner(2), 1);
        DUE.due("one alone", x.procession(), -3);
        DUE.due("it stays", x.count(6), 1);
        DUE.due("no such corner", x.corner(3), -1);
        DUE.due("no such corner below", x.corner(-1), -1);
        for (int i = 2; i <= 10; i++) {
            DUE.due("corner " + i, x.corner(i % 3), i);
        }
        DUE.due("no room", x.corner(0), -6);
        DUE.due("nobody is ahead of no room", x.corner(3), -1);
        DUE.due("ten", x.procession(), -9);
        Due.told(x, "s01,4;s10,3;s01,7;");
        DUE.due("of several the least", rowed(x, 0, 1, 2), 54);
        DUE.due("there and back", rowed(x, 0, 1), 7);
        x.set(0, 0);
        DUE.due("at minute 0 noon is past", rowed(x, 2, 1, 0), 20 + 4 + 30);
        x.shut(3, true);
        DUE.due("a shut one", rowed(x, 2, 1, 0), 20 + 7 + 30);
        x.set(0, 1);
        DUE.due("at minute 0 itself", rowed(x, 0, 1, 2), 7 + 20 + 30);
        OneWayTillNoon y = Due.townOf("k2;s01,7b;");
        DUE.due("one way", rowed(y, 0, 1), -9);
        y.set(1, 1);
        DUE.due("both ways", rowed(y, 0, 1), 14);
    }

    private static void judged() {
        OneWayTillNoon x = Due.townOf(RING, "m1,1;m2,1;");
        DUE.due("first must", x.judge(), 1);
        x.point(2);
        DUE.due("next must", x.judge(), 2);
        x.point(6);
        DUE.due("0 to 1 and 2", x.judge(), 110);
        x.point(7);
        DUE.due("all is well", x.judge(), -9);
        Due.told(x, "m1,2;m2,2;");
        x.point(2);
        DUE.due("2 can not be come to from 0", x.judge(), 102);
        x.set(0, 0);
        DUE.due("at minute 0, as it points then", x.judge(), 101);
        x.set(0, 1);
        DUE.due("at minute 0 itself", x.judge(), 102);
        x.point(0);
        DUE.due("round", x.judge(), -9);
        Due.told(x, "k10;");
        DUE.due("a corner more", x.judge(), 103);
    }
}
