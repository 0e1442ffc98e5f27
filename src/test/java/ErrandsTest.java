/** Promises 28 to 30: meets, pairs, lanes. */
final class ErrandsTest {
    private static final Due DUE = new Due();
    private static final String LINE = "k3;s01,10;s12,20;";

    private ErrandsTest() { }

    public static void main(String[] args) {
        meeting("e02@0,1;e12@10,1;", 1);
        meeting("e02@0,1;e12@11,1;", 0);
        meeting("e02@0,1;e12@9,1;", 0);
        meeting("e01@0,1;e12@10,1;", 1);
        meeting("e01@0,1;e12@9,1;", 0);
        meeting("e12@700,1;e21@715,1;", 1);
        meeting("e12@695,1;e21@715,1;", 1);
        meeting("e12@694,1;e21@715,1;", 0);
        meeting("e12@701,1;e21@715,1;", 0);
        meeting("e01@800,1;e02@800,1;", 0);
        meeting("e01@0,1;e01@800,1;", 0);
        refused();
        pairs();
        lanes();
        DUE.end();
    }

    private static void meeting(String errands, int meets) {
        OneWayTillNoon x = Due.townOf(LINE, errands);
        DUE.due("meets of " + errands, x.meets(0, 1), meets);
        DUE.due("meets, turned about, of " + errands, x.meets(1, 0), meets);
        DUE.due("pairs of " + errands, x.pairs(), 1 - meets);
    }

    private static void refused() {
        OneWayTillNoon x = Due.townOf(LINE, "e02@0,1;e12@10,1;");
        DUE.due("one twice", x.meets(1, 1), -1);
        DUE.due("no such one", x.meets(2, 0), -1);
        DUE.due("no such other", x.meets(0, 2), -1);
        DUE.due("below", x.meets(-1, 0), -1);
        DUE.due("other below", x.meets(0, -1), -1);
        DUE.due("refusals", x.count(11), 5);
    }

    private static void pairs() {
        OneWayTillNoon x = Due.townOf(LINE);
        DUE.due("no errands", x.pairs(), 0);
        Due.told(x, "e02@0,1;");
        DUE.due("one errand", x.pairs(), 0);
        Due.told(x, "e12@10,1;e12@5,1;e01@800,1;");
        DUE.due("five of six", x.pairs(), 5);
        Due.told(x, "e12@0,1;e12@0,1;e12@0,1;e12@0,1;");
        DUE.due("eight errands", x.pairs(), 5 + 4 * 4);
    }

    private static void lanes() {
        OneWayTillNoon x = Due.townOf(LINE);
        DUE.due("none needed", x.lanes(0, 0, 30), 0);
        DUE.due("too short", x.lanes(0, 0, 29), -9);
        DUE.due("both", x.lanes(2, 0, 30), 3);
        DUE.due("one", x.lanes(1, 0, 20), 1);
        DUE.due("the other, from noon on", x.lanes(1, 720, 20), 2);
        DUE.due("by waiting", x.lanes(1, 0, 730), 0);
        DUE.due("by waiting no sooner", x.lanes(1, 0, 729), 1);
        DUE.due("the last minute", x.lanes(1, 2879, 20), 2);
        DUE.due("too late for two", x.lanes(0, 2870, 2879), -9);
        x.shut(0, true);
        DUE.due("shut stays shut", x.lanes(1, 0, 2879), -9);
        x.shut(0, false);
        DUE.due("the way is as it was", x.way(1, 720), 1);
        DUE.due("no such corner", x.lanes(3, -1, -1), -1);
        DUE.due("no such corner below", x.lanes(-1, 0, 0), -1);
        DUE.due("minute below", x.lanes(0, -1, 2880), -4);
        DUE.due("within below", x.lanes(0, 2880, -1), -4);
        DUE.due("minute above", x.lanes(0, 2880, 0), -6);
        DUE.due("within above", x.lanes(0, 0, 2880), -6);
        OneWayTillNoon y = Due.townOf("k3;s10,10;s21,10;s20,20;");
        DUE.due("of several the least", y.lanes(0, 0, 20), 3);
        DUE.due("fewer is ahead of less", y.lanes(0, 0, 30), 4);
        DUE.due("no streets", new OneWayTillNoon().lanes(0, 0, 2879), -9);
    }
}
