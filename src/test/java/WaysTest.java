/** Promises 6 to 12: set, point, shut, way, soonest, waited, road. */
final class WaysTest {
    private static final Due DUE = new Due();
    private static final String RING = "k3;s01,10;s12,20b;s20,30;";

    private WaysTest() { }

    public static void main(String[] args) {
        settings();
        pointing();
        shutting();
        ways();
        soonestWays();
        lastMinutes();
        roads();
        longRoads();
        refused();
        DUE.end();
    }

    private static void settings() {
        OneWayTillNoon x = new OneWayTillNoon();
        int[] first = {720, 0, 240, 0};
        int[] least = {0, 0, 10, 0};
        int[] greatest = {1439, 4, 720, 9};
        for (int what = 0; what < 4; what++) {
            DUE.due("set below " + what, x.set(what, least[what] - 1), -4);
            DUE.due("set above " + what, x.set(what, greatest[what] + 1), -6);
            DUE.due("set least " + what, x.set(what, least[what]), first[what]);
            DUE.due("set greatest " + what, x.set(what, greatest[what]), least[what]);
            DUE.due("set was greatest " + what, x.set(what, first[what]), greatest[what]);
        }
        DUE.due("set other", x.set(4, -1), -2);
        DUE.due("set other below", x.set(-1, 0), -2);
    }

    private static void pointing() {
        OneWayTillNoon x = Due.townOf(RING);
        DUE.due("point", x.point(5), 0);
        DUE.due("point all", x.point(7), 5);
        DUE.due("point too many", x.point(8), -1);
        DUE.due("point below", x.point(-1), -1);
        DUE.due("point least", x.point(Integer.MIN_VALUE), -1);
        Due.told(x, "s01,5;");
        DUE.due("a street more points 0", x.point(8), 7);
        DUE.due("and was so", x.point(0), 8);
    }

    private static void shutting() {
        OneWayTillNoon x = Due.townOf(RING);
        DUE.due("open it was", x.shut(2, false), 0);
        DUE.due("shut", x.shut(2, true), 1);
        DUE.due("shut it was", x.shut(2, true), 0);
        DUE.due("is shut", x.street(2, 5), 1);
        DUE.due("how many shut", x.count(5), 1);
        DUE.due("open", x.shut(2, false), 1);
        DUE.due("none shut", x.count(5), 0);
        DUE.due("no such", x.shut(3, true), -1);
        DUE.due("no such below", x.shut(-1, false), -1);
    }

    private static void ways() {
        OneWayTillNoon x = Due.townOf(RING);
        x.point(4);
        dueWays(x, "told", new int[] {0, 719, 720, 2879}, 0, new int[] {0, 0, 1, 1});
        dueWays(x, "told, turned", new int[] {0, 719, 720, 2879}, 2, new int[] {1, 1, 0, 0});
        x.set(1, 1);
        dueWays(x, "both, broad", new int[] {0, 719, 720, 2879}, 1, new int[] {2, 2, 2, 2});
        dueWays(x, "both, not broad", new int[] {0, 719, 720, 2879}, 0, new int[] {0, 0, 1, 1});
        x.shut(1, true);
        dueWays(x, "shut and broad", new int[] {0, 720}, 1, new int[] {3, 3});
        x.shut(1, false);
        x.set(1, 2);
        dueWays(x, "twice", new int[] {719, 720, 959, 960, 1199, 1200, 2879}, 0, new int[] {0, 1, 1, 0, 0, 1, 1});
        x.set(1, 3);
        dueWays(x, "daily, day 0", new int[] {0, 720}, 0, new int[] {0, 1});
        x.set(3, 1);
        dueWays(x, "daily, day 1", new int[] {0, 719, 720, 2879}, 0, new int[] {1, 1, 0, 0});
        dueWays(x, "daily, day 1, turned", new int[] {0, 720}, 2, new int[] {0, 1});
        x.set(3, 8);
        dueWays(x, "daily, day 8", new int[] {0, 720}, 0, new int[] {0, 1});
        x.set(1, 4);
        dueWays(x, "still", new int[] {0, 720, 2879}, 0, new int[] {0, 0, 0});
        x.set(1, 0);
        x.set(0, 0);
        dueWays(x, "noon at once", new int[] {0, 1440, 2879}, 0, new int[] {1, 1, 1});
    }

    private static void dueWays(OneWayTillNoon x, String what, int[] minutes, int street, int[] ways) {
        for (int i = 0; i < minutes.length; i++) {
            DUE.due("way, " + what + ", at " + minutes[i], x.way(street, minutes[i]), ways[i]);
        }
    }

    private static void dueRoad(OneWayTillNoon x, int[] way, int soonest, int waited, int... streets) {
        String what = "from " + way[0] + " to " + way[1] + " at " + way[2];
        DUE.due("soonest " + what, x.soonest(way[0], way[1], way[2]), soonest);
        DUE.due("waited " + what, x.waited(way[0], way[1], way[2]), waited);
        DUE.due("road " + what, x.road(way[0], way[1], way[2], -1), soonest < 0 ? -9 : streets.length);
        for (int i = 0; i < streets.length; i++) {
            DUE.due("road " + what + " street " + i, x.road(way[0], way[1], way[2], i), streets[i]);
        }
        DUE.due("road's end " + what, x.road(way[0], way[1], way[2], streets.length), -9);
        DUE.due("far behind it " + what, x.road(way[0], way[1], way[2], Integer.MAX_VALUE), -9);
    }

    private static void soonestWays() {
        OneWayTillNoon x = Due.townOf(RING);
        dueRoad(x, new int[] {1, 1, 2879}, 2879, 0);
        dueRoad(x, new int[] {0, 2, 0}, 30, 0, 0, 1);
        dueRoad(x, new int[] {0, 2, 700}, 730, 0, 0, 1);
        dueRoad(x, new int[] {0, 2, 715}, 750, 5, 2);
        dueRoad(x, new int[] {1, 0, 0}, 50, 0, 1, 2);
        dueRoad(x, new int[] {1, 0, 710}, 730, 10, 0);
        dueRoad(x, new int[] {0, 1, 720}, 770, 0, 2, 1);
        x.shut(2, true);
        dueRoad(x, new int[] {0, 1, 720}, -9, -9);
        dueRoad(x, new int[] {2, 0, 0}, 750, 720, 1, 0);
        x.set(1, 1);
        dueRoad(x, new int[] {2, 0, 0}, 730, 700, 1, 0);
        x.set(1, 2);
        dueRoad(x, new int[] {2, 1, 721}, 741, 0, 1);
        dueRoad(x, new int[] {0, 2, 721}, 990, 239, 0, 1);
        dueRoad(x, new int[] {2, 0, 945}, 1210, 235, 1, 0);
        x.set(1, 4);
        dueRoad(x, new int[] {2, 0, 0}, -9, -9);
    }

    private static void lastMinutes() {
        OneWayTillNoon x = Due.townOf(RING);
        dueRoad(x, new int[] {0, 1, 2849}, 2899, 0, 2, 1);
        dueRoad(x, new int[] {0, 1, 2850}, -9, -9);
        dueRoad(x, new int[] {0, 2, 2879}, 2909, 0, 2);
        x.set(1, 2);
        x.set(0, 719);
        x.set(2, 720);
        DUE.due("turned at 719 and 1439", x.way(0, 1439), 0);
        DUE.due("till 2158", x.way(0, 2158), 0);
        DUE.due("turned again at 2159", x.way(0, 2159), 1);
        x.shut(2, true);
        DUE.due("the last turn of all is at 2879", x.way(0, 2879), 0);
        dueRoad(x, new int[] {0, 1, 2159}, 2889, 720, 0);
        x.set(0, 720);
        dueRoad(x, new int[] {0, 1, 2160}, -9, -9);
    }

    private static void roads() {
        OneWayTillNoon x = Due.townOf("k5;s01,10;s02,10;s23,10;s13,10;s01,10;");
        dueRoad(x, new int[] {0, 3, 0}, 20, 0, 1, 2);
        dueRoad(x, new int[] {0, 1, 0}, 10, 0, 0);
        dueRoad(x, new int[] {3, 0, 720}, 740, 0, 3, 0);
        dueRoad(x, new int[] {0, 4, 0}, -9, -9);
        Due.told(x, "s14,1;s34,40;");
        x.point(1 << 5);
        dueRoad(x, new int[] {0, 4, 0}, 60, 0, 1, 2, 6);
        dueRoad(x, new int[] {0, 4, 711}, 722, 0, 0, 5);
    }

    private static void longRoads() {
        OneWayTillNoon x = Due.townOf("k10;s01,1;s12,2;s23,3;s34,4;s45,5;s56,6;s67,7;s78,8;s89,9;");
        dueRoad(x, new int[] {0, 9, 5}, 50, 0, 0, 1, 2, 3, 4, 5, 6, 7, 8);
        dueRoad(x, new int[] {9, 0, 5}, 765, 715, 8, 7, 6, 5, 4, 3, 2, 1, 0);
        x.set(1, 2);
        x.set(2, 10);
        dueRoad(x, new int[] {0, 9, 715}, 779, 9 + 5 + 5, 0, 1, 2, 3, 4, 5, 6, 7, 8);
        DUE.due("by way alone", x.way(0, 731), 0);
        DUE.due("a way asked first of all", Due.townOf(RING).waited(1, 0, 710), 10);
        DUE.due("a road asked first of all", Due.townOf(RING).road(1, 0, 710, 0), 0);
        DUE.due("a soonest asked first of all", Due.townOf(RING).soonest(1, 0, 710), 730);
    }

    private static void refused() {
        OneWayTillNoon x = Due.townOf(RING);
        int[][] wrong = {{-1, 0, 0, -1}, {0, -1, 0, -1}, {3, 0, -1, -1}, {0, 3, 2880, -1}, {0, 1, -1, -4}, {0, 1, 2880, -6}};
        for (int[] w : wrong) {
            DUE.due("soonest refused", x.soonest(w[0], w[1], w[2]), w[3]);
            DUE.due("waited refused", x.waited(w[0], w[1], w[2]), w[3]);
            DUE.due("road refused", x.road(w[0], w[1], w[2], 0), w[3]);
        }
        DUE.due("road i below", x.road(0, 1, 0, -2), -4);
        DUE.due("road i below is ahead of a minute above", x.road(0, 1, 2880, -2), -4);
        DUE.due("road nobody is ahead of i below", x.road(9, 1, 0, -2), -1);
        DUE.due("way nobody is ahead", x.way(3, -1), -1);
        DUE.due("way below", x.way(0, -1), -4);
        DUE.due("way above", x.way(0, 2880), -6);
        DUE.due("refusals -1", x.count(11), 12 + 2);
        DUE.due("refusals -4", x.count(14), 3 + 3);
        DUE.due("refusals -6", x.count(16), 3 + 1);
    }
}
