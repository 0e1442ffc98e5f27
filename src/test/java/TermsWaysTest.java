/** "Terms", sentence by sentence: how streets point, what rules make of it, ways, soonest minutes and roads. */
final class TermsWaysTest {
    private static final Due DUE = new Due();
    private static final int TOLD = 0;
    private static final int BOTH = 1;
    private static final int TWICE = 2;
    private static final int DAILY = 3;
    private static final int STILL = 4;

    private TermsWaysTest() { }

    public static void main(String[] args) {
        bitsTillNoon();
        bitsFromNoon();
        settings();
        ruleTold();
        ruleBoth();
        ruleTwice();
        ruleTwiceEdges();
        ruleDaily();
        ruleStill();
        shutStreets();
        waysBegin();
        waiting();
        entering();
        gone();
        lastEntry();
        soonest();
        roadsOfSeveral();
        roadsAtOwnSoonest();
        waited();
        DUE.end();
    }

    private static void says(String words) {
        DUE.says(Document.TERMS, words);
    }

    private static OneWayTillNoon fourteen() {
        String seven = "s01,1;s01,1;s01,1;s01,1;s01,1;s01,1;s01,1;";
        return Due.townOf(seven, seven);
    }

    /** Minutes and the ways due at them, by turns. */
    private static void dueWays(OneWayTillNoon x, int street, int... minutesAndWays) {
        for (int i = 0; i + 1 < minutesAndWays.length; i += 2) {
            DUE.due("way of " + street + " at " + minutesAndWays[i], x.way(street, minutesAndWays[i]), minutesAndWays[i + 1]);
        }
    }

    private static void dueRoad(OneWayTillNoon x, int from, int to, int minute, int... streets) {
        DUE.due("streets of the road", x.road(from, to, minute, -1), streets.length);
        for (int i = 0; i < streets.length; i++) {
            DUE.due("street " + i + " of the road from " + from + " to " + to, x.road(from, to, minute, i), streets[i]);
        }
    }

    private static void bitsTillNoon() {
        says("A POINTING has a bit of each STREET: 0 from a to b, 1 from b to a, till NOON;");
        OneWayTillNoon x = fourteen();
        for (int s = 0; s < 14; s++) {
            x.point(1 << s);
            dueWays(x, s, 0, 1, 719, 1);
            dueWays(x, (s + 1) % 14, 0, 0, 719, 0);
        }
        OneWayTillNoon y = Due.townOf("k3;s21,7;");
        DUE.due("from a to b", y.soonest(2, 1, 0), 7);
        DUE.due("not from b to a till noon", y.soonest(1, 2, 0), 727);
        y.point(1);
        DUE.due("from b to a", y.soonest(1, 2, 0), 7);
        DUE.due("not from a to b till noon", y.soonest(2, 1, 0), 727);
    }

    private static void bitsFromNoon() {
        says("from NOON on each the other way.");
        OneWayTillNoon x = fourteen();
        for (int s = 0; s < 14; s++) {
            x.point(1 << s);
            dueWays(x, s, 720, 0, 2879, 0);
            dueWays(x, (s + 1) % 14, 720, 1, 2879, 1);
        }
        x.point(0);
        dueWays(x, 0, 1439, 1, 1440, 1, 2159, 1, 2160, 1);
        x.set(0, 0);
        dueWays(x, 0, 0, 1, 1, 1, 2879, 1);
        x.set(0, 1);
        dueWays(x, 0, 0, 0, 1, 1);
        x.set(0, 1439);
        dueWays(x, 0, 1438, 0, 1439, 1, 1440, 1, 2878, 1, 2879, 1);
    }

    private static void settings() {
        says("SETTINGS: 0 NOON (0 .. 1439; 720), 1 RULE (0 .. 4; 0), 2 EVERY (10 .. 720; 240), 3 DAY (0 .. 9; 0).");
        int[] first = {720, 0, 240, 0};
        int[] least = {0, 0, 10, 0};
        int[] greatest = {1439, 4, 720, 9};
        for (int what = 0; what < first.length; what++) {
            OneWayTillNoon x = new OneWayTillNoon();
            DUE.due("below the least of " + what, x.set(what, least[what] - 1), -4);
            DUE.due("above the greatest of " + what, x.set(what, greatest[what] + 1), -6);
            DUE.due("the least of " + what, x.set(what, least[what]), first[what]);
            DUE.due("the greatest of " + what, x.set(what, greatest[what]), least[what]);
            for (int other = 0; other < first.length; other++) {
                DUE.due(other + " by the side of " + what, x.set(other, first[other]), other == what ? greatest[what] : first[other]);
            }
        }
    }

    private static void ruleTold() {
        says("KINDS of RULES: 0 TOLD: as told.");
        OneWayTillNoon x = Due.townOf("s01,1b;s01,1;");
        x.set(1, STILL);
        x.set(1, TOLD);
        x.set(2, 10);
        x.set(3, 9);
        x.point(2);
        dueWays(x, 0, 0, 0, 719, 0, 720, 1, 730, 1, 2879, 1);
        dueWays(x, 1, 0, 1, 719, 1, 720, 0, 730, 0, 2879, 0);
    }

    private static void ruleBoth() {
        says("1 BOTH under TOLD: BROAD ones both ways, always.");
        OneWayTillNoon x = Due.townOf("s01,1b;s01,1;s01,1b;");
        x.set(1, BOTH);
        x.set(2, 10);
        x.set(3, 9);
        x.point(4);
        dueWays(x, 0, 0, 2, 719, 2, 720, 2, 2879, 2);
        dueWays(x, 1, 0, 0, 719, 0, 720, 1, 730, 1, 2879, 1);
        dueWays(x, 2, 0, 2, 719, 2, 720, 2, 2879, 2);
        DUE.due("there at 2879", x.soonest(0, 1, 2879), 2880);
        DUE.due("and back", x.soonest(1, 0, 2879), 2880);
        x.set(1, TWICE);
        dueWays(x, 0, 0, 0);
    }

    private static void ruleTwice() {
        says("2 TWICE under TOLD: they turn at NOON, and each EVERY minutes after that again.");
        OneWayTillNoon x = Due.townOf("s01,1b;s01,1;");
        x.set(1, TWICE);
        x.set(3, 9);
        x.point(2);
        dueWays(x, 0, 0, 0, 479, 0, 480, 0, 719, 0, 720, 1, 959, 1, 960, 0, 1199, 0, 1200, 1, 1440, 0, 1679, 0, 1680, 1);
        dueWays(x, 1, 719, 1, 720, 0, 959, 0, 960, 1, 2879, 1 - (2879 - 720) / 240 % 2 == 1 ? 0 : 1);
        x.set(2, 10);
        dueWays(x, 0, 710, 0, 719, 0, 720, 1, 729, 1, 730, 0, 739, 0, 740, 1, 2869, 1, 2870, 0, 2879, 0);
        x.set(2, 11);
        dueWays(x, 0, 719, 0, 720, 1, 730, 1, 731, 0, 741, 0, 742, 1);
    }

    private static void ruleTwiceEdges() {
        OneWayTillNoon x = Due.townOf("s01,1;");
        x.set(1, TWICE);
        x.set(2, 720);
        dueWays(x, 0, 719, 0, 720, 1, 1439, 1, 1440, 0, 2159, 0, 2160, 1, 2879, 1);
        x.set(0, 0);
        dueWays(x, 0, 0, 1, 719, 1, 720, 0, 1439, 0, 1440, 1, 2160, 0, 2879, 0);
        x.set(0, 1439);
        dueWays(x, 0, 0, 0, 1438, 0, 1439, 1, 2158, 1, 2159, 0, 2878, 0, 2879, 1);
        DUE.due("the turn at 2879 is waited for", x.soonest(1, 0, 2500), 2880);
        x.set(2, 10);
        x.set(0, 0);
        dueWays(x, 0, 0, 1, 9, 1, 10, 0, 19, 0, 20, 1);
        DUE.due("the next turn alone is waited for", x.soonest(0, 1, 0), 11);
        DUE.due("of each turn", x.soonest(1, 0, 15), 21);
    }

    private static void ruleDaily() {
        says("3 DAILY under TOLD: on odd DAYS all as if each bit were the other one.");
        OneWayTillNoon x = Due.townOf("s01,1b;s01,1;");
        x.set(1, DAILY);
        x.set(2, 10);
        x.point(2);
        for (int day = 0; day <= 9; day++) {
            x.set(3, day);
            int odd = day % 2;
            dueWays(x, 0, 0, odd, 719, odd, 720, 1 - odd, 730, 1 - odd, 1440, 1 - odd, 2879, 1 - odd);
            dueWays(x, 1, 0, 1 - odd, 719, 1 - odd, 720, odd, 2879, odd);
        }
        DUE.due("the bits are told as they were", x.point(2), 2);
        DUE.due("on an odd day", x.soonest(1, 0, 0), 1);
        x.set(1, BOTH);
        dueWays(x, 1, 0, 1);
    }

    private static void ruleStill() {
        says("4 STILL under TOLD: they do not turn.");
        OneWayTillNoon x = Due.townOf("s01,1b;s01,1;");
        x.set(1, STILL);
        x.set(2, 10);
        x.set(3, 9);
        x.point(2);
        dueWays(x, 0, 0, 0, 719, 0, 720, 0, 730, 0, 2879, 0);
        dueWays(x, 1, 0, 1, 719, 1, 720, 1, 730, 1, 2879, 1);
        x.set(0, 0);
        dueWays(x, 0, 0, 0);
        x.point(0);
        DUE.due("there is no waiting for a turn", x.soonest(1, 0, 0), -9);
    }

    private static void shutStreets() {
        says("A STREET that is SHUT (bits) nobody goes.");
        OneWayTillNoon x = Due.townOf("k2;s01,1b;s01,9b;");
        x.shut(0, true);
        for (int rule = TOLD; rule <= STILL; rule++) {
            x.set(1, rule);
            dueWays(x, 0, 0, 3, 720, 3, 2879, 3);
            DUE.due("by the other one under " + rule, x.soonest(0, 1, 0), 9);
            DUE.due("longest under " + rule, x.longest(0), rule == BOTH ? 9 : -9);
        }
        x.shut(1, true);
        x.set(1, BOTH);
        DUE.due("none is left", x.soonest(0, 1, 0), -9);
        DUE.due("nor back", x.soonest(1, 0, 0), -9);
        x.shut(0, false);
        DUE.due("open again", x.soonest(1, 0, 0), 1);
        OneWayTillNoon y = fourteen();
        y.shut(13, true);
        dueWays(y, 13, 0, 3);
        dueWays(y, 12, 0, 0);
        dueWays(y, 0, 0, 0);
    }

    private static void waysBegin() {
        says("A WAY begins at a CORNER at a MINUTE (0 .. 2879).");
        OneWayTillNoon x = Due.townOf("s01,1b;");
        x.set(1, BOTH);
        DUE.due("at 0", x.soonest(0, 1, 0), 1);
        DUE.due("at 2879", x.soonest(0, 1, 2879), 2880);
        DUE.due("ahead of 0", x.soonest(0, 1, -1), -4);
        DUE.due("behind 2879", x.soonest(0, 1, 2880), -6);
        DUE.due("at no corner", x.soonest(4, 1, 0), -1);
        DUE.due("at the last one", x.soonest(3, 3, 2879), 2879);
    }

    private static void waiting() {
        says("One may WAIT at CORNERS.");
        OneWayTillNoon x = Due.townOf("k3;s10,10;s12,10;");
        DUE.due("where one begins", x.soonest(0, 1, 0), 730);
        DUE.due("where one comes by", x.soonest(0, 2, 720), -9);
        x.point(2);
        DUE.due("till noon and on", x.soonest(0, 2, 0), 740);
        DUE.due("on the way", Due.townOf("k3;s01,10;s21,10;").soonest(0, 2, 3), 730);
        DUE.due("as long as it takes", Due.townOf("k2;s10,10;").waited(0, 1, 0), 720);
        DUE.due("one minute", Due.townOf("k2;s10,10;").waited(0, 1, 719), 1);
    }

    private static void entering() {
        says("A STREET is entered at a MINUTE at which it points so (or is gone both ways),");
        OneWayTillNoon x = Due.townOf("k2;s01,60b;");
        DUE.due("at the last such minute", x.soonest(0, 1, 719), 779);
        DUE.due("not one later", x.soonest(0, 1, 720), -9);
        DUE.due("at the first one back", x.soonest(1, 0, 720), 780);
        DUE.due("not one sooner", x.soonest(1, 0, 719), 780);
        x.set(1, BOTH);
        DUE.due("gone both ways, there", x.soonest(0, 1, 720), 780);
        DUE.due("gone both ways, back", x.soonest(1, 0, 719), 779);
    }

    private static void gone() {
        says("and takes its MINUTES, whatever turns meanwhile;");
        OneWayTillNoon x = Due.townOf("k3;s01,60;s12,1;");
        DUE.due("noon is meanwhile", x.soonest(0, 1, 700), 760);
        DUE.due("and then it points otherwise", x.soonest(0, 2, 700), -9);
        x.point(2);
        DUE.due("or as one needs it", x.soonest(0, 2, 700), 761);
        x.set(1, TWICE);
        x.set(2, 10);
        DUE.due("many turns are meanwhile", x.soonest(0, 1, 719), 779);
        x.point(0);
        DUE.due("the next turn is waited for", x.soonest(0, 2, 705), 771);
    }

    private static void lastEntry() {
        says("none is entered behind MINUTE 2879.");
        OneWayTillNoon x = Due.townOf("k3;s01,1b;s12,60b;");
        x.set(1, BOTH);
        DUE.due("the second one at 2879", x.soonest(0, 2, 2878), 2939);
        DUE.due("the second one at 2880", x.soonest(0, 2, 2879), -9);
        DUE.due("the first one is gone still", x.soonest(0, 1, 2879), 2880);
        OneWayTillNoon y = Due.townOf("k2;s01,60;");
        y.set(1, TWICE);
        y.set(2, 720);
        y.set(0, 719);
        DUE.due("at the turn at 2879", y.soonest(0, 1, 2879), 2939);
        DUE.due("back at it", y.soonest(1, 0, 2879), -9);
        DUE.due("back by the turn ahead of it", y.soonest(1, 0, 2158), 2219);
        DUE.due("the turn at 2879 waited for", y.soonest(0, 1, 2159), 2939);
        y.set(0, 720);
        DUE.due("a turn at 2880", y.soonest(0, 1, 2160), -9);
        DUE.due("ahead of it", y.soonest(0, 1, 2159), 2219);
    }

    private static void soonest() {
        says("SOONEST: the least MINUTE at which one can be at a CORNER; -9 never.");
        OneWayTillNoon x = Due.townOf("k5;s01,10;s12,10;s02,30;s23,5;s03,60;");
        DUE.due("by more streets in less", x.soonest(0, 2, 0), 20);
        DUE.due("and on", x.soonest(0, 3, 0), 25);
        DUE.due("by fewer, as noon comes between", x.soonest(0, 2, 710), 740);
        DUE.due("by one alone", x.soonest(0, 3, 709), 769);
        DUE.due("where one is", x.soonest(2, 2, 1234), 1234);
        DUE.due("where one is, alone", x.soonest(4, 4, 0), 0);
        DUE.due("never", x.soonest(0, 4, 0), -9);
        DUE.due("never from there", x.soonest(4, 0, 0), -9);
        DUE.due("never any more", x.soonest(0, 1, 720), -9);
        DUE.due("by waiting on the way", x.soonest(1, 3, 700), 715);
        OneWayTillNoon y = Due.townOf("k3;s10,1;s02,40;s21,40;");
        DUE.due("waiting is sooner", y.soonest(0, 1, 690), 721);
        DUE.due("going about is sooner", y.soonest(0, 1, 600), 680);
    }

    private static void roadsOfSeveral() {
        says("ROAD of a WAY: at its end backward: of STREETS by which it can be SOONEST");
        OneWayTillNoon x = Due.townOf("k4;s01,10;s02,10;s23,10;s13,10;s03,20;s01,10;");
        dueRoad(x, 0, 3, 0, 1, 2);
        dueRoad(x, 0, 1, 0, 0);
        x.shut(2, true);
        dueRoad(x, 0, 3, 0, 0, 3);
        x.shut(0, true);
        dueRoad(x, 0, 3, 0, 5, 3);
        x.shut(3, true);
        dueRoad(x, 0, 3, 0, 4);
        DUE.due("none from where it ends", x.road(3, 3, 0, -1), 0);
        OneWayTillNoon y = Due.townOf("k3;s02,20;s01,10;s12,10;");
        dueRoad(y, 0, 2, 0, 0);
        OneWayTillNoon z = Due.townOf("k3;s01,10;s12,10;s02,20;");
        dueRoad(z, 0, 2, 0, 0, 1);
        dueRoad(z, 0, 2, 705, 0, 1);
        dueRoad(z, 0, 2, 715, 2);
    }

    private static void roadsAtOwnSoonest() {
        says("(from a CORNER at its own SOONEST, waiting as little as may be) the least number.");
        OneWayTillNoon x = Due.townOf("k4;s21,10;s02,30;s01,10;s31,10;");
        DUE.due("either would do for the end", x.soonest(0, 3, 0), 730);
        dueRoad(x, 0, 3, 0, 2, 3);
        DUE.due("waited where one was soonest", x.waited(0, 3, 0), 710);
        OneWayTillNoon y = Due.townOf("k4;s31,20;s32,10;s02,20;s01,5;");
        DUE.due("waiting at the one or other", y.soonest(0, 3, 0), 730);
        dueRoad(y, 0, 3, 0, 2, 1);
        OneWayTillNoon z = Due.townOf("k4;s31,10;s32,10;s02,20;s01,5;");
        dueRoad(z, 0, 3, 0, 3, 0);
        OneWayTillNoon w = Due.townOf("k2;s01,10;s10,10;s01,20;");
        w.set(1, TWICE);
        w.set(2, 10);
        w.set(0, 10);
        DUE.due("at once by the second, not by waiting", w.soonest(0, 1, 15), 25);
        dueRoad(w, 0, 1, 15, 1);
        DUE.due("a wait of five", w.soonest(0, 1, 5), 15);
        dueRoad(w, 0, 1, 5, 0);
    }

    private static void waited() {
        says("WAITED of a WAY: all MINUTES waited on that ROAD.");
        OneWayTillNoon x = Due.townOf("k4;s01,10;s12,20;s23,5;");
        DUE.due("none", x.waited(0, 3, 0), 0);
        DUE.due("none where one is", x.waited(1, 1, 0), 0);
        DUE.due("all of one wait", x.waited(3, 0, 0), 720);
        x.set(1, TWICE);
        x.set(0, 10);
        x.set(2, 10);
        DUE.due("0 at 7, 1 at 17 .. 20, 2 at 40 .. 40, 3 at 45", x.waited(0, 3, 7), 3);
        DUE.due("0 at 12 .. 20, 1 at 30 .. 40, 2 at 60, 3 at 65", x.waited(0, 3, 12), 18);
        DUE.due("its end", x.soonest(0, 3, 12), 65);
        DUE.due("1 at 15 .. 20, 2 at 40", x.waited(1, 3, 15), 5);
        DUE.due("never", x.waited(0, 3, 2870), -9);
    }
}
