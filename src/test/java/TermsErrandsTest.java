/** "Terms", sentence by sentence: what errands cost, what makes them cheaper, and who meets whom. */
final class TermsErrandsTest {
    private static final Due DUE = new Due();
    private static final String LINE = "k3;s01,10;s12,20;";
    private static final String TEN = "k2;s01,9;s01,9;s01,9;s01,9;s01,9;s01,9;s01,9;s01,9;s01,9;";
    private static final int BOTH = 1;
    private static final int TWICE = 2;
    private static final int DAILY = 3;
    private static final int STILL = 4;

    private TermsErrandsTest() { }

    public static void main(String[] args) {
        costs();
        neverCosts();
        best();
        bestOfSeveral();
        far();
        turning();
        turningAgain();
        bothWays();
        bothWaysOfSeveral();
        bestNoon();
        lives();
        meets();
        meetsAtEnds();
        pairs();
        lanes();
        lanesOfSeveral();
        shuts();
        days();
        draws();
        DUE.end();
    }

    private static void says(String words) {
        DUE.says(Document.TERMS, words);
    }

    private static void costs() {
        says("COST of all ERRANDS: of each WORTH times (SOONEST at TO from FROM at AT, less AT);");
        DUE.due("none", Due.townOf(LINE).cost(), 0);
        DUE.due("one", Due.townOf(LINE, "e02@5,1;").cost(), 30);
        DUE.due("its worth", Due.townOf(LINE, "e02@5,9;").cost(), 270);
        DUE.due("with waiting", Due.townOf(LINE, "e20@5,3;").cost(), 3 * (750 - 5));
        DUE.due("all", Due.townOf(LINE, "e02@5,1;e02@5,9;e20@5,3;").cost(), 300 + 3 * 745);
        DUE.due("at the last minute", Due.townOf(LINE, "e20@1439,2;").cost(), 60);
        OneWayTillNoon x = Due.townOf(LINE, "e02@5,1;");
        x.set(0, 6);
        DUE.due("noon comes between", x.cost(), 3000);
        x.set(1, TWICE);
        x.set(2, 10);
        DUE.due("and again: 1 at 15, on at 16", x.cost(), 31);
    }

    private static void neverCosts() {
        says("3000 in place of the minutes, if never.");
        DUE.due("never", Due.townOf(LINE, "e02@720,1;").cost(), 3000);
        DUE.due("times its worth", Due.townOf(LINE, "e02@720,9;").cost(), 27000);
        DUE.due("beside others", Due.townOf(LINE, "e02@720,2;e01@0,2;").cost(), 6020);
        DUE.due("eight of them", Due.townOf("e01@0,9;e01@0,9;e01@0,9;e01@0,9;e01@0,9;e01@0,9;e01@0,9;", "e01@0,9;").cost(), 216000);
        OneWayTillNoon x = Due.townOf("k2;s01,60;e01@1439,1;");
        x.set(1, TWICE);
        x.set(2, 720);
        x.set(0, 719);
        DUE.due("at 1439 it is not never", x.cost(), 60);
        x.point(1);
        DUE.due("at 2159", x.cost(), 2159 - 1439 + 60);
    }

    private static void best() {
        says("BEST: of all POINTINGS (10 STREETS at most) that keep all MUSTS that with least COST,");
        OneWayTillNoon x = Due.townOf("k3;s01,10;s12,10;s12,5;e20@0,1;");
        DUE.due("by the short one", x.best(), 5);
        Due.told(x, "e02@0,1;");
        DUE.due("neither errand alone", x.best(), 2);
        Due.told(x, "m1,0;");
        DUE.due("by a must, of three the least", x.best(), 0);
        Due.told(x, "m1,2;m2,1;m0,1;");
        DUE.due("by two, of two the least", x.best(), 5);
        Due.told(x, "m0,0;m1,0;m2,0;");
        DUE.due("one way alone keeps them", x.best(), 0);
        Due.told(x, "m0,1;m1,1;m2,1;");
        DUE.due("another way alone keeps them", x.best(), 7);
        DUE.due("the pointing stays", x.point(0), 0);
        OneWayTillNoon y = Due.townOf("k2;s01,10;s01,5;e01@0,1;e10@0,1;");
        y.set(1, STILL);
        y.shut(0, true);
        DUE.due("shut ones are no help", y.best(), 0);
        y.shut(0, false);
        DUE.due("open ones are", y.best(), 1);
        OneWayTillNoon z = Due.townOf("k2;s01,10;e10@0,1;");
        DUE.due("till noon", z.best(), 1);
        z.set(0, 0);
        DUE.due("from noon on", z.best(), 0);
        z.set(1, DAILY);
        z.set(3, 1);
        DUE.due("on an odd day", z.best(), 1);
        OneWayTillNoon ten = Due.townOf(TEN, "s01,8;e10@0,1;");
        DUE.due("ten", ten.best(), 512);
        Due.told(ten, "s01,1;");
        DUE.due("eleven", ten.best(), -6);
    }

    private static void bestOfSeveral() {
        says("of several the least as bits. FAR:");
        DUE.due("no errands", Due.townOf(LINE).best(), 0);
        DUE.due("no errands, musts", Due.townOf(LINE, "m1,1;").best(), 2);
        OneWayTillNoon x = Due.townOf("k2;s01,10;s01,10;s01,10;e01@0,1;e10@0,1;");
        DUE.due("either", x.best(), 1);
        x.point(4);
        DUE.due("wherever it points", x.best(), 1);
        Due.told(x, "m0,0;");
        DUE.due("either of two", x.best(), 2);
        Due.told(x, "m0,1;");
        DUE.due("that alone", x.best(), 1);
    }

    private static void far() {
        says("FAR: likewise that with least LONGEST at MINUTE 0 (ALL must be),");
        OneWayTillNoon x = Due.townOf("k3;s01,10;s12,20;s20,30;s01,1;", "m0,0;");
        DUE.due("31 by 3, 2, 1 turned", x.far(), 14);
        Due.told(x, "m1,0;");
        DUE.due("40 by 3 turned", x.far(), 8);
        Due.told(x, "m3,0;");
        DUE.due("50 by none", x.far(), 0);
        DUE.due("the pointing stays", x.point(0), 0);
        OneWayTillNoon y = Due.townOf("k2;s01,9;s01,5;s01,1;");
        y.point(6);
        DUE.due("5 by 1 turned, the least", y.far(), 2);
        y.shut(2, true);
        DUE.due("one is shut", y.far(), 1);
        OneWayTillNoon z = Due.townOf("k2;s01,9b;s01,5;");
        DUE.due("one way each", z.far(), 1);
        z.set(1, BOTH);
        DUE.due("one both ways", z.far(), 0);
        OneWayTillNoon ten = Due.townOf(TEN, "s10,8;");
        DUE.due("ten: 9 in any case", ten.far(), 0);
        Due.told(ten, "m9,1;m0,0;");
        DUE.due("ten, by musts", ten.far(), 512 + 2);
        Due.told(ten, "s01,1;");
        DUE.due("eleven", ten.far(), -6);
        says("of several the least; -9 none. TURNING:");
        DUE.due("of two the least", Due.townOf("k3;s01,10;s12,20;s20,30;").far(), 0);
        DUE.due("of two the least, one a must", Due.townOf("k3;s01,10;s12,20;s20,30;m2,1;").far(), 7);
        DUE.due("a bridge", Due.townOf("k2;s01,1;").far(), -9);
        DUE.due("musts", Due.townOf("k2;s01,1;s01,1;m0,1;m1,1;").far(), -9);
        DUE.due("shut", shutFirst("k2;s01,1;s01,1;").far(), -9);
    }

    private static OneWayTillNoon shutFirst(String text) {
        OneWayTillNoon x = Due.townOf(text);
        x.shut(0, true);
        return x;
    }

    private static void turning() {
        says("TURNING: from the POINTING as it is STREETS by numbers are turned, if MUSTS let them and COST is less then;");
        OneWayTillNoon x = Due.townOf("k2;s01,10;s01,5;e10@0,1;e01@0,1;");
        x.set(1, STILL);
        DUE.due("0 is turned, 1 need not", x.turning(), 1);
        x.point(3);
        DUE.due("0 is turned back", x.turning(), 2);
        x.point(2);
        DUE.due("as cheap already", x.turning(), 2);
        x.point(0);
        Due.told(x, "m0,0;");
        DUE.due("0 must not be turned", x.turning(), 2);
        Due.told(x, "m1,0;");
        DUE.due("none must be turned", x.turning(), 0);
        Due.told(x, "m0,1;m1,1;");
        DUE.due("one that must be turned is, when it costs less", x.turning(), 1);
        x.point(3);
        DUE.due("and stays so", x.turning(), 3);
        OneWayTillNoon y = Due.townOf(LINE, "e20@0,1;");
        y.set(1, STILL);
        DUE.due("both would cost less, one alone does not", y.turning(), 0);
        y.point(2);
        DUE.due("from there it does", y.turning(), 3);
        DUE.due("the pointing stays", y.point(0), 2);
        OneWayTillNoon z = Due.townOf("k2;s01,10;s01,10;e10@0,1;m1,1;");
        DUE.due("no less, not turned", z.turning(), 1);
        z.point(2);
        DUE.due("no less, neither", z.turning(), 2);
    }

    private static void turningAgain() {
        says("again till none is (20 rounds at most): the POINTING then.");
        DUE.due("1, then 0", Due.townOf(LINE, "e20@0,1;").turning(), 3);
        String line = "k9;s01,1;s12,1;s23,1;s34,1;s45,1;s56,1;s67,1;s78,1;";
        DUE.due("eight rounds, the last one first", Due.townOf(line, "e80@0,1;").turning(), 255);
        DUE.due("one round is enough", Due.townOf("k4;s10,1;s21,1;s32,1;e03@0,1;").turning(), 7);
        OneWayTillNoon x = Due.townOf("k10;s69,59;s78,60;s96,5;s28,10;s72,55;s52,24;s34,34;s03,14;",
                "s25,44;s51,5;s97,50;s06,31;s78,59;s78,7;e14@402,8;e25@1287,4;");
        x.set(0, 965);
        x.set(1, TWICE);
        x.set(2, 59);
        x.point(8320);
        DUE.due("a town of twenty-four rounds: the pointing after twenty", x.turning(), 2036);
        x.point(2036);
        DUE.due("the four that were left", x.turning(), 11793);
        DUE.due("no streets", new OneWayTillNoon().turning(), 0);
        DUE.due("eleven streets", Due.townOf(TEN, "s01,8;s01,7;e10@0,1;").turning(), 1 + 512 + 1024);
    }

    private static void bothWays() {
        says("BOTH WAYS: the fewest STREETS that, gone both ways always (in mind), make COST no more than told,");
        OneWayTillNoon x = Due.townOf("k3;s01,10;s12,10;e20@0,1;");
        DUE.due("cost", x.cost(), 740);
        DUE.due("as it is", x.bothWays(740), 0);
        DUE.due("one less", x.bothWays(739), 2);
        DUE.due("as much by one", x.bothWays(730), 2);
        DUE.due("one less than that", x.bothWays(729), 3);
        DUE.due("as much by two", x.bothWays(20), 3);
        DUE.due("it was in mind", x.cost(), 740);
        DUE.due("the greatest number", x.bothWays(Integer.MAX_VALUE), 0);
        DUE.due("0 by no errands", Due.townOf(LINE).bothWays(0), 0);
        OneWayTillNoon y = Due.townOf("k3;s01,10;s12,10;s02,30;e20@0,1;");
        DUE.due("one, not two that are less as bits", y.bothWays(30), 4);
        DUE.due("two", y.bothWays(29), 3);
        OneWayTillNoon z = Due.townOf("k2;s01,10b;s01,10;e10@0,1;");
        DUE.due("a broad one is of no help", z.bothWays(10), 1);
        z.set(1, BOTH);
        DUE.due("by rule it is", z.bothWays(10), 0);
        z.shut(0, true);
        DUE.due("unless it is shut", z.bothWays(10), 2);
        z.shut(1, true);
        DUE.due("what is shut nobody goes", z.bothWays(2999), -9);
        DUE.due("always: behind noon, too", Due.townOf("k2;s01,10;e01@720,1;").bothWays(10), 1);
    }

    private static void bothWaysOfSeveral() {
        says("of several the least as bits; -9 (10 STREETS at most).");
        OneWayTillNoon x = Due.townOf("k3;s10,10;s10,10;s21,10;s21,10;e02@0,1;");
        DUE.due("0 or 1 and 2 or 3", x.bothWays(20), 5);
        DUE.due("0 or 1", x.bothWays(730), 1);
        DUE.due("not to be had", x.bothWays(19), -9);
        DUE.due("no streets", new OneWayTillNoon().bothWays(0), 0);
        DUE.due("no streets, an errand", Due.townOf("e01@0,1;").bothWays(2999), -9);
        DUE.due("no streets, an errand, much", Due.townOf("e01@0,1;").bothWays(3000), 0);
        OneWayTillNoon ten = Due.townOf(TEN, "s01,8;e10@0,1;");
        DUE.due("ten", ten.bothWays(8), 512);
        DUE.due("ten, the least", ten.bothWays(9), 1);
        DUE.due("ten, not to be had", ten.bothWays(7), -9);
        Due.told(ten, "s01,1;");
        DUE.due("eleven", ten.bothWays(9), -6);
    }

    private static void bestNoon() {
        says("BEST NOON: of 0, 60, .. 1380 that with least COST, of several the least.");
        DUE.due("no errands", Due.townOf(LINE).bestNoon(), 0);
        DUE.due("the first behind it", Due.townOf("k2;s01,10;e01@130,1;").bestNoon(), 180);
        DUE.due("the last minute ahead", Due.townOf("k2;s01,10;e01@179,1;").bestNoon(), 180);
        DUE.due("at an hour", Due.townOf("k2;s01,10;e01@180,1;").bestNoon(), 240);
        DUE.due("back", Due.townOf("k2;s01,10;e10@130,1;").bestNoon(), 0);
        DUE.due("back, with waiting", Due.townOf("k2;s01,10;e10@130,9;e01@70,1;").bestNoon(), 120);
        DUE.due("the last hour", Due.townOf("k2;s01,10;e01@1379,1;").bestNoon(), 1380);
        DUE.due("no hour is late enough", Due.townOf("k2;s01,10;e01@1380,1;").bestNoon(), 0);
        OneWayTillNoon x = Due.townOf("k2;s01,10;e01@130,1;");
        x.set(0, 1);
        DUE.due("whatever the noon", x.bestNoon(), 180);
        DUE.due("which stays", x.set(0, 720), 1);
        x.set(1, TWICE);
        x.set(2, 90);
        DUE.due("turned at 0 and 90 and 180 it is 1 again", x.bestNoon(), 0);
        x.set(1, STILL);
        DUE.due("no noon", x.bestNoon(), 0);
    }

    private static void lives() {
        says("LIVES: the CORNER from which, as FROM of all ERRANDS, COST is least, of several the least.");
        DUE.due("no errands", Due.townOf(LINE).lives(), 0);
        DUE.due("where one goes", Due.townOf(LINE, "e01@0,1;").lives(), 1);
        DUE.due("where one goes last of all", Due.townOf("k10;e09@0,1;").lives(), 9);
        DUE.due("worth more", Due.townOf("k3;e01@0,1;e02@0,2;").lives(), 2);
        DUE.due("of two the least", Due.townOf("k3;e02@0,2;e01@0,2;").lives(), 1);
        DUE.due("of all the least", Due.townOf("k3;s01,1;s12,1;s20,1;e01@0,1;e12@0,1;e20@0,1;").lives(), 0);
        OneWayTillNoon x = Due.townOf("k3;s01,10;s12,10;s20,10;e01@0,1;e12@0,1;");
        DUE.due("ahead of both", x.lives(), 1);
        x.set(0, 0);
        DUE.due("from noon on", x.lives(), 2);
        DUE.due("errands stay", x.errand(0, 0), 0);
        DUE.due("ten corners, none without cost", Due.townOf("k10;e01@0,1;e02@0,1;e09@0,1;").lives(), 1);
        DUE.due("eight errands", Due.townOf("k2;e01@0,1;e01@0,1;e01@0,1;e10@0,1;e10@0,1;e10@0,1;e01@0,1;", "e01@0,1;").lives(), 1);
        DUE.due("each at its own minute", Due.townOf("k2;s01,10;e01@720,1;e10@0,1;").lives(), 1);
        DUE.due("never is 3000", Due.townOf("k4;s01,60;s02,60;e31@0,1;e32@0,1;").lives(), 0);
    }

    private static void dueMeeting(String town, String errands, int meets) {
        OneWayTillNoon x = Due.townOf(town, errands);
        DUE.due("meets of " + errands, x.meets(0, 1), meets);
        DUE.due("the one and the other about, of " + errands, x.meets(1, 0), meets);
        DUE.due("pairs of " + errands, x.pairs(), 1 - meets);
    }

    private static void meets() {
        says("MEETS: whether two ERRANDS on their ROADS are at one CORNER at one MINUTE (from when one comes to it till one goes on;");
        dueMeeting(LINE, "e02@0,1;e12@10,1;", 1);
        dueMeeting(LINE, "e02@0,1;e12@11,1;", 0);
        dueMeeting(LINE, "e02@0,1;e12@9,1;", 0);
        dueMeeting(LINE, "e12@700,1;e21@715,1;", 1);
        dueMeeting(LINE, "e12@695,1;e21@715,1;", 1);
        dueMeeting(LINE, "e12@694,1;e21@715,1;", 0);
        dueMeeting(LINE, "e12@701,1;e21@715,1;", 0);
        dueMeeting(LINE, "e21@100,1;e21@719,1;", 1);
        dueMeeting(LINE, "e20@0,1;e10@100,1;", 0);
        dueMeeting(LINE, "e20@0,1;e10@740,1;", 1);
        dueMeeting("k3;s01,10;s12,10;s01,10;s12,10;", "e02@0,1;e02@0,1;", 1);
        dueMeeting("k4;s01,10;s23,10;", "e01@0,1;e23@0,1;", 0);
        dueMeeting("k4;s01,10;s13,10;s02,5;s23,15;", "e03@0,1;e02@10,1;", 0);
        dueMeeting("k5;s01,10;s13,10;s02,5;s23,15;s24,1;", "e03@0,1;e24@5,1;", 0);
        dueMeeting("k5;s02,5;s23,15;s01,10;s13,10;s24,1;", "e03@0,1;e24@5,1;", 1);
    }

    private static void meetsAtEnds() {
        says("at the end that MINUTE alone).");
        dueMeeting(LINE, "e01@0,1;e12@10,1;", 1);
        dueMeeting(LINE, "e01@0,1;e12@11,1;", 0);
        dueMeeting(LINE, "e01@0,1;e12@9,1;", 0);
        dueMeeting(LINE, "e01@0,1;e21@700,1;", 0);
        dueMeeting(LINE, "e01@700,1;e21@690,1;", 0);
        dueMeeting("k3;s01,10;s21,10;", "e01@0,1;e21@0,1;", 1);
        dueMeeting("k3;s01,10;s21,10;", "e01@0,1;e21@1,1;", 0);
    }

    private static void pairs() {
        says("PAIRS that never meet: how many (those that never come do not meet).");
        DUE.due("no errands", Due.townOf(LINE).pairs(), 0);
        DUE.due("one", Due.townOf(LINE, "e02@0,1;").pairs(), 0);
        DUE.due("two that meet", Due.townOf(LINE, "e02@0,1;e02@0,1;").pairs(), 0);
        DUE.due("two that never come", Due.townOf(LINE, "e02@720,1;e02@720,1;").pairs(), 1);
        DUE.due("one that never comes", Due.townOf(LINE, "e21@720,1;e02@720,1;").pairs(), 1);
        DUE.due("never come, never meet", Due.townOf(LINE, "e02@720,1;e02@720,1;").meets(0, 1), 0);
        DUE.due("one never comes, never meets", Due.townOf(LINE, "e02@720,1;e21@720,1;").meets(1, 0), 0);
        DUE.due("it comes to 1, but not to its end", Due.townOf(LINE, "e02@715,1;e10@725,1;").pairs(), 1);
        DUE.due("three, two of them meet", Due.townOf(LINE, "e02@0,1;e12@10,1;e12@300,1;").pairs(), 2);
        DUE.due("eight that never come", Due.townOf("e01@0,1;e01@0,1;e01@0,1;e01@0,1;e01@0,1;e01@0,1;e01@0,1;", "e01@0,1;").pairs(), 28);
    }

    private static void lanes() {
        says("LANES: the fewest STREETS that, gone both ways always (in mind), let one from a CORNER at a MINUTE "
                + "be at each other one within told minutes,");
        OneWayTillNoon x = Due.townOf(LINE);
        DUE.due("as it is", x.lanes(0, 0, 30), 0);
        DUE.due("at a later minute", x.lanes(0, 700, 30), 0);
        DUE.due("noon comes between", x.lanes(0, 710, 30), 2);
        DUE.due("both", x.lanes(2, 0, 30), 3);
        DUE.due("one", x.lanes(1, 0, 20), 1);
        DUE.due("always: behind noon, too", x.lanes(1, 720, 20), 2);
        DUE.due("by waiting", x.lanes(1, 0, 730), 0);
        DUE.due("one minute less", x.lanes(1, 0, 729), 1);
        DUE.due("it was in mind", x.way(0, 0), 0);
        OneWayTillNoon y = Due.townOf("k3;s10,10;s21,10;s20,20;");
        DUE.due("one, not two that are less as bits", y.lanes(0, 0, 30), 4);
        DUE.due("two", y.lanes(0, 0, 29), 3);
        OneWayTillNoon z = Due.townOf("k2;s10,7b;");
        DUE.due("a broad one is of no help", z.lanes(0, 0, 7), 1);
        z.set(1, BOTH);
        DUE.due("by rule it is", z.lanes(0, 0, 7), 0);
        z.shut(0, true);
        DUE.due("what is shut nobody goes", z.lanes(0, 0, 2879), -9);
        DUE.due("a corner that no street comes to", Due.townOf("k3;s01,1;").lanes(0, 0, 2879), -9);
    }

    private static void lanesOfSeveral() {
        says("of several the least as bits; -9 (10 STREETS at most). SHUTS:");
        OneWayTillNoon x = Due.townOf("k3;s10,10;s10,10;s21,10;s21,10;");
        DUE.due("0 or 1 and 2 or 3", x.lanes(0, 0, 20), 5);
        DUE.due("one minute less", x.lanes(0, 0, 19), -9);
        DUE.due("0 minutes", x.lanes(0, 0, 0), -9);
        DUE.due("no streets", new OneWayTillNoon().lanes(0, 0, 2879), -9);
        DUE.due("the last minutes", x.lanes(2, 0, 2879), 0);
        DUE.due("too late for the second", x.lanes(0, 2870, 2879), -9);
        DUE.due("just in time", x.lanes(0, 2869, 20), 0);
        DUE.due("the second in time, there", x.lanes(2, 2869, 20), 5);
        OneWayTillNoon ten = Due.townOf(TEN, "s01,8;");
        DUE.due("ten", ten.lanes(1, 0, 8), 512);
        DUE.due("ten, the least", ten.lanes(1, 0, 9), 1);
        DUE.due("ten, not to be had", ten.lanes(1, 0, 7), -9);
        Due.told(ten, "s01,1;");
        DUE.due("eleven", ten.lanes(1, 0, 9), -6);
    }

    private static void shuts() {
        says("SHUTS: COST with one STREET more SHUT, less COST now.");
        OneWayTillNoon x = Due.townOf("k3;s01,10;s12,20;s02,40;e02@0,2;");
        DUE.due("by the longer one", x.shuts(0), 20);
        DUE.due("by the longer one, too", x.shuts(1), 20);
        DUE.due("no need of it", x.shuts(2), 0);
        DUE.due("it is not shut", x.street(0, 5), 0);
        DUE.due("the cost stays", x.cost(), 60);
        x.shut(2, true);
        DUE.due("none is left", x.shuts(0), 6000 - 60);
        DUE.due("what is shut", x.shuts(2), 0);
        x.shut(0, true);
        DUE.due("never already", x.shuts(1), 0);
        DUE.due("no errands", Due.townOf(LINE).shuts(1), 0);
        OneWayTillNoon y = Due.townOf("k2;s01,10;s01,5;e10@719,1;");
        DUE.due("by waiting", y.shuts(1), 5);
    }

    private static void days() {
        says("DAYS: COST of n days (1 .. 10) with a seed z: on each ERRANDS' AT are DRAWS below 1440 (by numbers): together.");
        OneWayTillNoon x = Due.townOf("k2;s01,10;e10@0,1;");
        DUE.due("563", x.days(1, 0), 730 - 563);
        DUE.due("563, 777", x.days(2, 0), 730 - 563 + 10);
        DUE.due("none", x.days(0, 0), -4);
        DUE.due("eleven", x.days(11, 0), -6);
        DUE.due("ten: three of them till noon", x.days(10, 0), 3 * 730 - 563 - 230 - 15 + 7 * 10);
        DUE.due("its at stays", x.errand(0, 2), 0);
        DUE.due("no errands", Due.townOf(LINE).days(10, 7), 0);
        OneWayTillNoon y = Due.townOf("k2;s01,10;e10@0,1;e01@0,2;");
        DUE.due("by numbers: 563 and 777", y.days(1, 0), 730 - 563 + 2 * 3000);
        DUE.due("the next day: 1206 and 1139", y.days(2, 0), 730 - 563 + 2 * 3000 + 10 + 2 * 3000);
        Due.told(y, "e01@0,3;");
        DUE.due("563, 777, 1206", y.days(1, 0), 730 - 563 + 2 * 3000 + 3 * 3000);
        DUE.due("1305, 453, 609", y.days(1, 1), 10 + 2 * 10 + 3 * 10);
    }

    private static void draws() {
        says("A DRAW below m: z becomes z times 1664525 and 1013904223 (an int); "
                + "(z without its sign's bit by 256, cut) modulo m.");
        int[] seeds = {0, 1, 5, -1, -3, Integer.MAX_VALUE, Integer.MIN_VALUE, 123456789};
        int[][] drawn = {{563, 777, 1206, 1139, 1189, 230, 1004, 767, 894, 15}, {1305, 453, 609, 90, 1261, 289, 317, 927, 230, 480},
            {1393, 1432, 43, 217, 494, 748, 1059, 736, 453, 904}, {1261, 1100, 1196, 747, 508, 779, 250, 607, 727, 989},
            {1217, 307, 343, 1404, 1195, 1270, 1015, 287, 615, 665}, {1261, 1100, 1196, 747, 508, 779, 250, 607, 727, 989},
            {563, 777, 1206, 1139, 1189, 230, 1004, 767, 894, 15}, {955, 984, 838, 1071, 685, 444, 1146, 15, 1001, 25}};
        OneWayTillNoon x = Due.townOf("k2;s01,10;e10@0,1;");
        x.set(0, 1439);
        for (int i = 0; i < seeds.length; i++) {
            int sum = 0;
            for (int day = 0; day < drawn[i].length; day++) {
                sum += 1439 - drawn[i][day] + 10;
                DUE.due("all wait till 1439, seed " + seeds[i] + " days " + (day + 1), x.days(day + 1, seeds[i]), sum);
            }
        }
    }
}
