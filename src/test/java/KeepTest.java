/** Promises 34 to 36: image, on, count. */
final class KeepTest {
    private static final Due DUE = new Due();

    private KeepTest() { }

    public static void main(String[] args) {
        images();
        emptyImage();
        counts();
        DUE.end();
    }

    private static void images() {
        OneWayTillNoon x = Due.townOf("k3;s01,10;s12,20b;e02@5,2;m1,1;");
        DUE.due("no image yet", x.on(), -3);
        x.set(0, 100);
        x.set(1, 3);
        x.set(2, 50);
        x.set(3, 7);
        x.point(2);
        x.shut(0, true);
        x.corner(2);
        x.corner(1);
        DUE.due("image", x.image(), 2);
        Due.told(x, "k9;s82,1b;s01,2b;e78@9,9;m0,1;m1,0;m2,1;");
        for (int what = 0; what < 4; what++) {
            x.set(what, 0);
            x.set(what, 10);
        }
        x.point(13);
        x.shut(0, false);
        x.shut(3, true);
        x.procession();
        x.corner(8);
        Due.fed(x, "k5");
        int refusals = x.count(14) + x.count(16);
        for (int time = 0; time < 2; time++) {
            DUE.due("on", x.on(), 2);
            dueAsThen(x);
            DUE.due("the tape stays", x.count(7), 2);
            DUE.due("refusals stay", x.count(14) + x.count(16), refusals);
            Due.told(x, ";");
            DUE.due("changed again", x.count(0), 5);
            x.point(3);
            x.corner(4);
            Due.fed(x, "k5");
        }
        DUE.due("the state once refused", x.count(13), 1);
        x.on();
        DUE.due("the row as then", x.count(6), 2);
        x.shut(0, false);
        x.set(1, 0);
        x.set(0, 720);
        DUE.due("a street more comes behind those of then", Due.told(x, ";s21,3;"), 2);
        DUE.due("and has no must", x.street(2, 4), 2);
        DUE.due("and is not broad", x.street(2, 3), 0);
        DUE.due("and points 0", x.point(0), 2);
        DUE.due("the row's corners", x.procession(), 20 + 3);
        DUE.due("a newer image", x.image(), 3);
        DUE.due("takes the place", x.on(), 3);
        DUE.due("with its row", x.count(6), 0);
    }

    private static void dueAsThen(OneWayTillNoon x) {
        int[] counts = {3, 2, 1, 1, 1, 1, 2};
        for (int what = 0; what < counts.length; what++) {
            DUE.due("count as then " + what, x.count(what), counts[what]);
        }
        int[] second = {1, 2, 20, 1, 1, 0};
        for (int what = 0; what < second.length; what++) {
            DUE.due("street as then " + what, x.street(1, what), second[what]);
        }
        int[] errand = {0, 2, 5, 2};
        for (int what = 0; what < errand.length; what++) {
            DUE.due("errand as then " + what, x.errand(0, what), errand[what]);
        }
        int[] settings = {100, 3, 50, 7};
        for (int what = 0; what < settings.length; what++) {
            DUE.due("setting as then " + what, x.set(what, settings[what]), settings[what]);
        }
        DUE.due("shut as then", x.street(0, 5), 1);
        DUE.due("pointing as then", x.point(2), 2);
    }

    private static void emptyImage() {
        OneWayTillNoon x = new OneWayTillNoon();
        DUE.due("an image of nothing", x.image(), 0);
        Due.told(x, "k9;s01,1;");
        DUE.due("on from nothing", x.on(), 0);
        DUE.due("four corners", x.count(0), 4);
        DUE.due("no streets", x.count(1), 0);
    }

    private static void counts() {
        OneWayTillNoon x = Due.townOf("k7;s01,1b;s01,1b;s01,1;m0,1;e01@0,1;");
        x.shut(2, true);
        x.corner(6);
        Due.fed(x, "k4;");
        int[] counts = {7, 3, 1, 2, 1, 1, 1, 3};
        for (int what = 0; what < counts.length; what++) {
            DUE.due("count " + what, x.count(what), counts[what]);
        }
        x.way(3, 0);
        x.shuts(3);
        x.set(9, 0);
        x.on();
        x.feed(0, 0);
        x.feed(0, 0);
        x.feed(0, 0);
        x.feed(9, 0);
        int[] refusals = {2, 1, 1, 3, 0, 1};
        int[] others = {-1, 8, 9, 10, 17, Integer.MIN_VALUE, Integer.MAX_VALUE};
        for (int other : others) {
            DUE.due("count " + other, x.count(other), -9);
        }
        for (int i = 0; i < refusals.length; i++) {
            DUE.due("refusals -" + (i + 1), x.count(11 + i), refusals[i]);
        }
    }
}
