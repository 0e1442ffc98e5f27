/** "Terms", sentence by sentence: who comes to whom, bridges and the walk, processions, the judged pointing. */
final class TermsTownTest {
    private static final Due DUE = new Due();
    private static final String RING = "k3;s01,10;s12,20;s20,30;";
    private static final int BOTH = 1;
    private static final int STILL = 4;

    private TermsTownTest() { }

    public static void main(String[] args) {
        all();
        longest();
        apart();
        can();
        canByTrying();
        hangTogether();
        bridges();
        bridgeBits();
        walkFromNought();
        walkOn();
        walkBack();
        processions();
        processionStreets();
        judgedMusts();
        judgedCorners();
        DUE.end();
    }

    private static void says(String words) {
        DUE.says(Document.TERMS, words);
    }

    private static void all() {
        says("==== II. ALL: whether at a MINUTE, with STREETS as they point then for ever (RULE, SHUT), "
                + "one comes from each CORNER to each other one.");
        OneWayTillNoon x = Due.townOf("k2;s01,10b;");
        DUE.due("for ever: no turn is waited for", x.all(0), 0);
        DUE.due("though it comes", x.soonest(1, 0, 0), 730);
        x.set(1, BOTH);
        DUE.due("both ways", x.all(0), 1);
        DUE.due("at 2879", x.all(2879), 1);
        x.shut(0, true);
        DUE.due("shut", x.all(0), 0);
        OneWayTillNoon ring = Due.townOf(RING);
        for (int rule = 0; rule <= STILL; rule++) {
            ring.set(1, rule);
            DUE.due("round till noon under " + rule, ring.all(719), 1);
            DUE.due("round from noon on under " + rule, ring.all(720), 1);
        }
        ring.point(2);
        DUE.due("one turned", ring.all(0), 0);
        Due.told(ring, "k4;");
        ring.point(0);
        DUE.due("a corner more that no street comes to", ring.all(0), 0);
        Due.told(ring, "s30,1;");
        DUE.due("none comes to it", ring.all(0), 0);
        Due.told(ring, "s03,1;");
        DUE.due("now one does", ring.all(0), 1);
    }

    private static void longest() {
        says("LONGEST: the greatest of least MINUTES between two CORNERS so; -9 not ALL.");
        OneWayTillNoon x = Due.townOf(RING);
        DUE.due("from 1 to 0", x.longest(0), 50);
        DUE.due("from 0 to 1", x.longest(720), 50);
        Due.told(x, "s10,1;");
        DUE.due("a short one back: from 2 to 1", x.longest(0), 40);
        DUE.due("there is none so far as on the spot", Due.townOf("k2;s01,7;s10,9;").longest(0), 9);
        OneWayTillNoon y = Due.townOf("k3;s02,60;s20,60;s01,1;s10,1;s12,1;s21,1;");
        DUE.due("the least of several", y.longest(0), 2);
        DUE.due("ten corners", Due.townOf("k10;s01,60;s12,60;s23,60;s34,60;s45,60;s56,60;s67,60;", "s78,60;s89,60;s90,60;").longest(0), 540);
        x.shut(1, true);
        DUE.due("not all", x.longest(0), -9);
        DUE.due("no streets", new OneWayTillNoon().longest(0), -9);
        OneWayTillNoon z = Due.townOf("k2;s01,10b;");
        DUE.due("one way", z.longest(0), -9);
        z.set(1, BOTH);
        DUE.due("both ways", z.longest(0), 10);
    }

    private static void apart() {
        says("APART: pairs of CORNERS (from, to) of which the other can not be come to so.");
        DUE.due("none", Due.townOf(RING).apart(0), 0);
        DUE.due("two corners, no street", Due.townOf("k2;").apart(0), 2);
        DUE.due("two corners, one street", Due.townOf("k2;s01,1;").apart(0), 1);
        DUE.due("a line of three", Due.townOf("k3;s01,1;s12,1;").apart(0), 3);
        DUE.due("a line of three from noon on", Due.townOf("k3;s01,1;s12,1;").apart(720), 3);
        DUE.due("two into one", Due.townOf("k3;s01,1;s21,1;").apart(0), 4);
        DUE.due("ten corners", Due.townOf("k10;").apart(2879), 90);
        DUE.due("a ring and one beside it", Due.townOf(RING, "k4;").apart(0), 6);
        OneWayTillNoon x = Due.townOf("k3;s01,1b;s12,1;");
        x.set(1, BOTH);
        DUE.due("one of them both ways", x.apart(0), 2);
        x.shut(0, true);
        DUE.due("and shut", x.apart(0), 5);
    }

    private static void can() {
        says("CAN: whether some POINTING makes ALL true (with no RULE, no SHUT ones):");
        OneWayTillNoon x = Due.townOf("k2;s01,1b;");
        x.set(1, BOTH);
        DUE.due("a rule makes all", x.all(0), 1);
        DUE.due("no pointing does", x.can(), 0);
        OneWayTillNoon y = Due.townOf("k2;s01,1;s01,1;");
        y.shut(0, true);
        y.shut(1, true);
        DUE.due("shut ones are looked at", y.can(), 1);
        DUE.due("whatever points now", Due.townOf("k2;s01,1;s01,1;").can(), 1);
        DUE.due("no streets", new OneWayTillNoon().can(), 0);
    }

    private static void canByTrying() {
        String[] towns = {"k2;s01,1;", "k3;s01,1;s12,1;", RING, "k3;s01,1;s01,1;s12,1;", "k3;s01,1;s10,1;s12,1;s12,1;",
            "k4;s01,1;s12,1;s20,1;s03,1;", "k4;s01,1;s12,1;s23,1;s30,1;", "k4;s01,1;s01,1;s23,1;s23,1;"};
        for (String text : towns) {
            OneWayTillNoon x = Due.townOf(text);
            int can = 0;
            for (int bits = 0; bits < 1 << x.count(1); bits++) {
                x.point(bits);
                can |= x.all(0);
            }
            DUE.due("by trying " + text, x.can(), can);
        }
    }

    private static void hangTogether() {
        says("all CORNERS hang together,");
        DUE.due("they do", Due.townOf(RING).can(), 1);
        DUE.due("one does not", Due.townOf(RING, "k4;").can(), 0);
        DUE.due("0 does not", Due.townOf("k3;s12,1;s12,1;").can(), 0);
        DUE.due("two by two", Due.townOf("k4;s01,1;s01,1;s23,1;s23,1;").can(), 0);
        DUE.due("ten in a row", Due.townOf("k10;s98,1;s87,1;s76,1;s65,1;s54,1;s43,1;s32,1;s21,1;s10,1;", "s09,1;").can(), 1);
    }

    private static void bridges() {
        says("and no STREET is a BRIDGE (without it its two CORNERS do not).");
        DUE.due("a bridge", Due.townOf("k2;s01,1;").can(), 0);
        DUE.due("doubled it is none", Due.townOf("k2;s01,1;s10,1;").can(), 1);
        DUE.due("a ring and a bridge from it", Due.townOf(RING, "k4;s23,1;").can(), 0);
        DUE.due("between two rings", Due.townOf("k6;s01,1;s12,1;s20,1;s34,1;s45,1;s53,1;s03,1;").can(), 0);
        DUE.due("two between two rings", Due.townOf("k6;s01,1;s12,1;s20,1;s34,1;s45,1;s53,1;s03,1;s14,1;").can(), 1);
    }

    private static void bridgeBits() {
        says("BRIDGES (bits).");
        DUE.due("no streets", new OneWayTillNoon().bridges(), 0);
        DUE.due("none", Due.townOf(RING).bridges(), 0);
        DUE.due("a line", Due.townOf("k4;s01,1;s12,1;s23,1;").bridges(), 7);
        DUE.due("elsewhere than at 0", Due.townOf("s23,1;").bridges(), 1);
        DUE.due("between two rings", Due.townOf("k6;s01,1;s12,1;s03,1;s20,1;s34,1;s45,1;s53,1;").bridges(), 4);
        DUE.due("doubled", Due.townOf("k3;s01,1;s12,1;s10,1;").bridges(), 2);
        OneWayTillNoon x = Due.townOf("k10;s98,1;s87,1;s76,1;s65,1;s54,1;s43,1;s32,1;s21,1;s10,1;");
        DUE.due("nine", x.bridges(), 511);
        x.set(1, BOTH);
        x.shut(4, true);
        x.point(3);
        DUE.due("whatever is shut and points", x.bridges(), 511);
        OneWayTillNoon y = Due.townOf("s01,1;s01,1;s01,1;s01,1;s01,1;s01,1;s01,1;", "s01,1;s01,1;s01,1;s01,1;s01,1;s01,1;s13,1;");
        DUE.due("the last of fourteen", y.bridges(), 8192);
    }

    private static void dueWalk(String text, int walk) {
        OneWayTillNoon x = Due.townOf(text);
        DUE.due("walk of " + text, x.walk(), walk);
        for (int s = 0; s < x.count(1); s++) {
            x.shut(s, true);
        }
        x.point((1 << x.count(1)) - 1);
        x.set(1, BOTH);
        DUE.due("walk of " + text + " with all shut and turned", x.walk(), walk);
        DUE.due("the pointing stays", x.point(0), (1 << x.count(1)) - 1);
    }

    private static void walkFromNought() {
        says("WALK: the POINTING by one walk through from CORNER 0: at a CORNER of STREETS by numbers those not yet gone: "
                + "it points from there on;");
        dueWalk("k2;s01,1;", 0);
        dueWalk("k2;s10,1b;", 1);
        dueWalk("k2;s10,1;s10,1;", 1);
        dueWalk("k2;s01,1;s01,1;", 2);
        dueWalk("k2;s01,1;s01,1;s10,1;s10,1;", 2);
        dueWalk("k4;s02,1;s01,1;s12,1;", 2 + 4);
        dueWalk("k4;s12,1;s01,1;s02,1;", 4);
    }

    private static void walkOn() {
        says("to a new CORNER one goes on from it at once,");
        dueWalk("k3;s01,1;s02,1;s12,1;", 2);
        dueWalk("k4;s01,1;s02,1;s03,1;s12,1;s23,1;", 2 + 4);
        dueWalk("k4;s30,1;s20,1;s10,1;s12,1;s23,1;", 1 + 16 + 8);
        dueWalk("k10;s98,1;s87,1;s76,1;s65,1;s54,1;s43,1;s32,1;s21,1;s10,1;", 511);
    }

    private static void walkBack() {
        says("and comes back then (those never come to point 0).");
        dueWalk("k4;s01,1;s12,1;s31,1;", 4);
        dueWalk("k4;s01,1;s20,1;s30,1;", 2 + 4);
        dueWalk("k5;s01,1;s12,1;s23,1;s41,1;", 8);
        dueWalk("k4;s32,1;", 0);
        dueWalk("k4;s32,1;s32,1;s10,1;", 4);
        OneWayTillNoon x = Due.townOf("k10;s98,1;s87,1;s76,1;s65,1;s54,1;s43,1;s32,1;s21,1;s10,1;", "s90,1;s90,1;s19,1;s91,1;s59,1;");
        DUE.due("fourteen: 0 to 1 by 8, and on to 9, which goes back", x.walk(), 511 + (1 << 11) + (1 << 13));
        DUE.due("no streets", new OneWayTillNoon().walk(), 0);
    }

    private static int rowed(OneWayTillNoon x, int... corners) {
        for (int corner : corners) {
            x.corner(corner);
        }
        return x.procession();
    }

    private static void processions() {
        says("PROCESSION: a ROW of CORNERS (10 at most, the first one behind the last again):");
        OneWayTillNoon x = Due.townOf(RING);
        DUE.due("round", rowed(x, 0, 1, 2), 60);
        DUE.due("from elsewhere", rowed(x, 2, 0, 1), 60);
        DUE.due("the other way round", rowed(x, 2, 1, 0), -9);
        DUE.due("not back from the last", rowed(x, 0, 1), -9);
        DUE.due("twice round", rowed(x, 0, 1, 2, 0, 1, 2), 120);
        OneWayTillNoon y = Due.townOf("k2;s01,3;s10,4;");
        DUE.due("ten", rowed(y, 0, 1, 0, 1, 0, 1, 0, 1, 0, 1), 35);
        DUE.due("an eleventh does not come in", rowed(y, 0, 1, 0, 1, 0, 1, 0, 1, 0, 1, 1), 35);
        DUE.due("two", rowed(y, 1, 0), 7);
        says("the least MINUTES of a round along STREETS that point so at MINUTE 0");
        x.set(0, 1);
        DUE.due("noon is at 1", rowed(x, 0, 1, 2), 60);
        x.set(0, 0);
        DUE.due("noon is at 0", rowed(x, 0, 1, 2), -9);
        DUE.due("the other way round then", rowed(x, 0, 2, 1), 60);
        DUE.due("not by a corner between", rowed(Due.townOf("k3;s01,1;s12,1;s21,1;s20,1;"), 0, 2), -9);
        OneWayTillNoon z = Due.townOf("k2;s01,7b;");
        DUE.due("one way", rowed(z, 0, 1), -9);
        z.set(1, BOTH);
        DUE.due("both ways", rowed(z, 0, 1), 14);
        z.shut(0, true);
        DUE.due("shut", rowed(z, 0, 1), -9);
    }

    private static void processionStreets() {
        says("(of several between two the one with fewest MINUTES);");
        OneWayTillNoon x = Due.townOf("k2;s01,9;s01,5;s01,7;s10,60;s10,59;s01,1;");
        x.point(32);
        DUE.due("5 and 1", rowed(x, 0, 1), 6);
        x.point(0);
        DUE.due("1 and 59", rowed(x, 0, 1), 60);
        x.shut(5, true);
        DUE.due("5 and 59", rowed(x, 0, 1), 64);
        x.shut(1, true);
        x.shut(4, true);
        DUE.due("7 and 60", rowed(x, 0, 1), 67);
        says("-9 it can not be.");
        DUE.due("none back", rowed(Due.townOf("k2;s01,1;"), 0, 1), -9);
        DUE.due("no streets", rowed(new OneWayTillNoon(), 0, 3), -9);
        DUE.due("on the spot", rowed(Due.townOf(RING), 0, 0), -9);
        DUE.due("on the spot on the way", rowed(Due.townOf(RING), 0, 1, 1, 2), -9);
        OneWayTillNoon y = Due.townOf("k9;");
        y.corner(8);
        y.corner(7);
        Due.told(y, "k2;s01,1;s10,1;");
        DUE.due("corners that are gone", y.procession(), -9);
    }

    private static void judgedMusts() {
        says("JUDGED, of the POINTING as it is: the first MUST that is not kept: its STREET;");
        OneWayTillNoon x = Due.townOf(RING, "m2,1;m1,1;");
        DUE.due("1 and 2 are not kept", x.judge(), 1);
        x.point(2);
        DUE.due("2 is not kept", x.judge(), 2);
        x.point(4);
        DUE.due("1 is not kept", x.judge(), 1);
        x.set(0, 0);
        DUE.due("as it is, whatever the noon", x.judge(), 1);
        Due.told(x, "m1,2;m0,1;");
        DUE.due("0 is not kept", x.judge(), 0);
        x.point(5);
        Due.told(x, "m2,0;");
        DUE.due("a must of 0", x.judge(), 2);
        x.shut(2, true);
        DUE.due("of a shut one", x.judge(), 2);
        OneWayTillNoon y = Due.townOf("s01,1;s01,1;s01,1;s01,1;s01,1;s01,1;s01,1;", "s01,1;s01,1;s01,1;s01,1;s01,1;s01,1;s01,1;m13,1;");
        DUE.due("of the last one", y.judge(), 13);
    }

    private static void judgedCorners() {
        says("else the first two CORNERS (by from, then to) of which the other can not be come to at MINUTE 0 (as APART): "
                + "100 and 10 times the one and the other;");
        DUE.due("0 to 1", new OneWayTillNoon().judge(), 101);
        DUE.due("0 to 2", Due.townOf("k3;s01,1;").judge(), 102);
        DUE.due("1 to 0", Due.townOf("k3;s01,1;s12,1;").judge(), 110);
        DUE.due("2 to 0", Due.townOf("k3;s01,1;s10,1;s12,1;").judge(), 120);
        DUE.due("9 to 0", Due.townOf("k10;s01,1;s10,1;s02,1;s20,1;s03,1;s30,1;s04,1;s40,1;", "k10;s05,1;s56,1;s67,1;s78,1;s80,1;s89,1;").judge(), 190);
        OneWayTillNoon x = Due.townOf("k2;s01,1b;m0,0;");
        DUE.due("at minute 0", x.judge(), 110);
        x.set(0, 0);
        DUE.due("at minute 0, when noon is past", x.judge(), 101);
        x.set(0, 1);
        DUE.due("at minute 0, when noon is at 1", x.judge(), 110);
        x.set(1, BOTH);
        DUE.due("by a rule", x.judge(), -9);
        x.shut(0, true);
        DUE.due("shut", x.judge(), 101);
        says("else -9.");
        OneWayTillNoon y = Due.townOf(RING, "m0,0;m1,0;");
        DUE.due("all is well", y.judge(), -9);
        y.point(7);
        DUE.due("but musts", y.judge(), 0);
    }
}
