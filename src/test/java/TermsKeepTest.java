import java.util.function.Consumer;
import java.util.function.ToIntFunction;

/** "Terms", sentence by sentence: the image, and what a refused call does. */
final class TermsKeepTest {
    private static final Due DUE = new Due();
    private static final int COUNTS_OF_REFUSALS = 10;

    private TermsKeepTest() { }

    public static void main(String[] args) {
        image();
        on();
        order();
        nothingChanges();
        nobody();
        other();
        state();
        below();
        room();
        shuts();
        askingChangesNothing();
        DUE.end();
    }

    private static void says(String words) {
        DUE.says(Document.TERMS, words);
    }

    private static void changeAll(OneWayTillNoon x) {
        x.town();
        Due.told(x, "k10;s98,1b;e89@1,2;m0,1;m1,2;m2,0;");
        x.set(0, 5);
        x.set(1, 4);
        x.set(2, 11);
        x.set(3, 9);
        x.point(255);
        x.shut(0, true);
        x.shut(3, false);
        x.procession();
        x.corner(9);
    }

    private static void image() {
        says("THE IMAGE: all that is told of the TOWN, POINTING, SETTINGS, SHUT ones, the ROW;");
        String ahead = Twins.answers(Twins.made());
        OneWayTillNoon x = Twins.made();
        x.image();
        changeAll(x);
        x.on();
        Due.fed(x, Twins.TAPE);
        String[] now = Twins.answers(x).split("; on ");
        DUE.same("all as then", now[0], ahead.split("; on ")[0]);
        OneWayTillNoon fresh = new OneWayTillNoon();
        fresh.image();
        changeAll(fresh);
        fresh.on();
        DUE.same("a new town as then", Twins.answers(fresh).split("; on ")[0], Twins.answers(new OneWayTillNoon()).split("; on ")[0]);
        OneWayTillNoon y = Twins.made();
        y.image();
        DUE.same("an image changes nothing else", Twins.answers(y).split("; on ")[0], ahead.split("; on ")[0]);
    }

    private static void on() {
        says("ON from it all is as then (THE TAPE and REFUSALS stay).");
        OneWayTillNoon x = Twins.made();
        x.image();
        for (int time = 1; time <= 3; time++) {
            changeAll(x);
            Due.fed(x, "k8;");
            x.feed(0, 0);
            x.feed(9, 0);
            DUE.due("on", x.on(), 6);
            DUE.due("as then", x.count(0), 6);
            DUE.due("the row as then", x.count(6), 2);
            DUE.due("the tape stays", x.count(7), 3);
            DUE.due("refusals below stay", x.count(14), time);
            DUE.due("refusals above stay", x.count(16), time);
        }
        DUE.due("its bytes stay", x.town(), 1);
        DUE.due("and are read", x.count(0), 8);
        DUE.due("the image takes no tape", tapeBehindImage(), 5);
    }

    private static int tapeBehindImage() {
        OneWayTillNoon x = new OneWayTillNoon();
        Due.fed(x, "k5");
        x.image();
        Due.fed(x, ";k6");
        x.on();
        return x.count(7);
    }

    private static OneWayTillNoon eleven() {
        return Due.townOf("s01,1;s01,1;s01,1;s01,1;s01,1;s01,1;", "s01,1;s01,1;s01,1;s01,1;s01,1;e01@0,1;");
    }

    private static void order() {
        says("REFUSALS (the call answers the number, the first that fits in the order in which it tells them;");
        OneWayTillNoon x = eleven();
        DUE.due("street: -1, -2", x.street(11, 6), -1);
        DUE.due("errand: -1, -2", x.errand(1, 4), -1);
        DUE.due("set: -2, -4", x.set(4, -1), -2);
        DUE.due("set: -2, -6", x.set(-1, 9999), -2);
        DUE.due("way: -1, -4", x.way(11, -1), -1);
        DUE.due("way: -1, -6", x.way(-1, 2880), -1);
        DUE.due("soonest: -1, -4", x.soonest(4, 0, -1), -1);
        DUE.due("soonest: -1, -6", x.soonest(0, 4, 2880), -1);
        DUE.due("waited: -1, -4", x.waited(0, -1, -1), -1);
        DUE.due("waited: -1, -6", x.waited(-1, 0, 2880), -1);
        DUE.due("road: -1, -4", x.road(4, 0, -1, 0), -1);
        DUE.due("road: -1, -4 by i", x.road(0, 4, 0, -2), -1);
        DUE.due("road: -1, -6", x.road(4, 0, 2880, 0), -1);
        DUE.due("road: -4 by i, -6", x.road(0, 1, 2880, -2), -4);
        DUE.due("bothWays: -4, -6", x.bothWays(-1), -4);
        DUE.due("lanes: -1, -4", x.lanes(4, -1, 0), -1);
        DUE.due("lanes: -1, -6", x.lanes(4, 2880, 0), -1);
        DUE.due("lanes: -4 by within, -6", x.lanes(0, 2880, -1), -4);
        DUE.due("lanes: -4 by minute, -6", x.lanes(0, -1, 2880), -4);
        DUE.due("corner: -1, -6", fullRow().corner(4), -1);
        DUE.due("feed: -4, -6", fullTape().feed(0, 0), -4);
        DUE.due("best: -6 ahead of -3", x.best(), -6);
    }

    private static OneWayTillNoon fullRow() {
        OneWayTillNoon x = new OneWayTillNoon();
        for (int i = 0; i < 10; i++) {
            x.corner(0);
        }
        return x;
    }

    private static OneWayTillNoon fullTape() {
        OneWayTillNoon x = new OneWayTillNoon();
        for (int i = 0; i < 8; i++) {
            x.feed(8, 0);
        }
        return x;
    }

    /** A call that is refused: what it answers, one refusal of that number more, and all else as without it. */
    private static void dueRefused(String call, int number, ToIntFunction<OneWayTillNoon> refused) {
        OneWayTillNoon x = Twins.made();
        DUE.due(call, refused.applyAsInt(x), number);
        for (int what = 11; what <= 16; what++) {
            DUE.due(call + ", count " + what, x.count(what), what == COUNTS_OF_REFUSALS - number ? 1 : 0);
        }
        DUE.same("all else, " + call, Twins.answers(x), Twins.answers(Twins.made()));
    }

    private static void nothingChanges() {
        says("nothing changes but how many there were):");
        dueRefused("feed(0, ..)", -4, x -> x.feed(0, -1));
        dueRefused("feed(9, ..)", -6, x -> x.feed(9, -1));
        dueRefused("street(6, 0)", -1, x -> x.street(6, 0));
        dueRefused("street(0, 6)", -2, x -> x.street(0, 6));
        dueRefused("errand(3, 0)", -1, x -> x.errand(3, 0));
        dueRefused("errand(0, 4)", -2, x -> x.errand(0, 4));
        dueRefused("set(0, 1440)", -6, x -> x.set(0, 1440));
        dueRefused("set(2, 9)", -4, x -> x.set(2, 9));
        dueRefused("set(4, 0)", -2, x -> x.set(4, 0));
        dueRefused("point(64)", -1, x -> x.point(64));
        dueRefused("point(-1)", -1, x -> x.point(-1));
        dueRefused("shut(6, true)", -1, x -> x.shut(6, true));
        dueRefused("shut(-1, true)", -1, x -> x.shut(-1, true));
        dueRefused("way(6, 0)", -1, x -> x.way(6, 0));
        dueRefused("soonest(0, 6, 0)", -1, x -> x.soonest(0, 6, 0));
        dueRefused("waited(0, 0, -1)", -4, x -> x.waited(0, 0, -1));
        dueRefused("road(0, 0, 0, -2)", -4, x -> x.road(0, 0, 0, -2));
        dueRefused("all(2880)", -6, x -> x.all(2880));
        dueRefused("longest(-1)", -4, x -> x.longest(-1));
        dueRefused("apart(2880)", -6, x -> x.apart(2880));
        dueRefused("bothWays(-1)", -4, x -> x.bothWays(-1));
        dueRefused("corner(6)", -1, x -> x.corner(6));
        dueRefused("meets(1, 1)", -1, x -> x.meets(1, 1));
        dueRefused("lanes(0, 0, 2880)", -6, x -> x.lanes(0, 0, 2880));
        dueRefused("days(0, 0)", -4, x -> x.days(0, 0));
        dueRefused("days(11, 0)", -6, x -> x.days(11, 0));
    }

    private static void nobody() {
        says("-1 NOBODY: no such CORNER, STREET, ERRAND.");
        OneWayTillNoon x = Twins.made();
        int[] none = {-1, Integer.MIN_VALUE, 6, Integer.MAX_VALUE};
        for (int nobody : none) {
            DUE.due("corner " + nobody, x.corner(nobody), -1);
            DUE.due("from " + nobody, x.soonest(nobody, 0, 0), -1);
            DUE.due("to " + nobody, x.soonest(0, nobody, 0), -1);
            DUE.due("street " + nobody, x.street(nobody, 0), -1);
            DUE.due("errand " + nobody, x.errand(nobody, 0), -1);
        }
        DUE.due("errand 3", x.errand(3, 0), -1);
        DUE.due("the last corner", x.soonest(5, 5, 0), 0);
        DUE.due("the last street", x.street(5, 2), 7);
        DUE.due("the last errand", x.errand(2, 3), 7);
        DUE.due("counted", x.count(11), 21);
    }

    private static void other() {
        says("-2 OTHER: what.");
        OneWayTillNoon x = Twins.made();
        int[] others = {-1, Integer.MIN_VALUE, Integer.MAX_VALUE};
        for (int what : others) {
            DUE.due("street " + what, x.street(0, what), -2);
            DUE.due("errand " + what, x.errand(0, what), -2);
            DUE.due("set " + what, x.set(what, 10), -2);
        }
        DUE.due("street 6", x.street(0, 6), -2);
        DUE.due("errand 4", x.errand(0, 4), -2);
        DUE.due("set 4", x.set(4, 10), -2);
        DUE.due("counted", x.count(12), 12);
    }

    private static void state() {
        says("-3 STATE: it is not as it must be.");
        OneWayTillNoon x = new OneWayTillNoon();
        DUE.due("best, no streets", x.best(), -3);
        DUE.due("far, no streets", x.far(), -3);
        DUE.due("procession, no row", x.procession(), -3);
        DUE.due("on, no image", x.on(), -3);
        DUE.due("counted", x.count(13), 4);
        Due.told(x, "s01,1;");
        x.corner(0);
        x.corner(1);
        x.image();
        DUE.due("best", x.best(), 0);
        DUE.due("far", x.far(), -9);
        DUE.due("procession", x.procession(), -9);
        DUE.due("on", x.on(), 1);
        DUE.due("still so many", x.count(13), 4);
    }

    private static void below() {
        says("-4 BELOW: a number below the least.");
        OneWayTillNoon x = Twins.made();
        int[] numbers = {-1, Integer.MIN_VALUE};
        for (int number : numbers) {
            DUE.due("feed " + number, x.feed(number, 0), -4);
            DUE.due("set " + number, x.set(0, number), -4);
            DUE.due("way " + number, x.way(0, number), -4);
            DUE.due("soonest " + number, x.soonest(0, 0, number), -4);
            DUE.due("waited " + number, x.waited(0, 0, number), -4);
            DUE.due("road " + number, x.road(0, 0, number, 0), -4);
            DUE.due("all " + number, x.all(number), -4);
            DUE.due("longest " + number, x.longest(number), -4);
            DUE.due("apart " + number, x.apart(number), -4);
            DUE.due("bothWays " + number, x.bothWays(number), -4);
            DUE.due("lanes at " + number, x.lanes(0, number, 0), -4);
            DUE.due("lanes within " + number, x.lanes(0, 0, number), -4);
            DUE.due("days " + number, x.days(number, 0), -4);
        }
        DUE.due("road's i", x.road(0, 0, 0, Integer.MIN_VALUE), -4);
        DUE.due("counted", x.count(14), 27);
    }

    private static void room() {
        says("-6 ROOM: a number above the greatest, no room.");
        OneWayTillNoon x = Twins.made();
        DUE.due("feed", x.feed(Integer.MAX_VALUE, 0), -6);
        int[] numbers = {2880, Integer.MAX_VALUE};
        for (int number : numbers) {
            DUE.due("set " + number, x.set(0, number), -6);
            DUE.due("way " + number, x.way(0, number), -6);
            DUE.due("soonest " + number, x.soonest(0, 0, number), -6);
            DUE.due("waited " + number, x.waited(0, 0, number), -6);
            DUE.due("road " + number, x.road(0, 0, number, 0), -6);
            DUE.due("all " + number, x.all(number), -6);
            DUE.due("longest " + number, x.longest(number), -6);
            DUE.due("apart " + number, x.apart(number), -6);
            DUE.due("lanes at " + number, x.lanes(0, number, 0), -6);
            DUE.due("lanes within " + number, x.lanes(0, 0, number), -6);
            DUE.due("days " + number, x.days(number, 0), -6);
        }
        DUE.due("counted", x.count(16), 23);
        DUE.due("no room in the row", fullRow().corner(0), -6);
        DUE.due("no room on the tape", fullTape().feed(1, 0), -6);
        DUE.due("more streets than are tried", eleven().best(), -6);
    }

    private static void shuts() {
        says("Of shuts() REFUSALS are 1000000000 less them (-1 as 1000000001).");
        OneWayTillNoon x = Twins.made();
        int[] none = {6, -1, Integer.MIN_VALUE, Integer.MAX_VALUE};
        for (int street : none) {
            DUE.due("shuts " + street, x.shuts(street), 1000000001);
        }
        DUE.due("counted as -1", x.count(11), 4);
        DUE.due("as nothing else", x.count(12) + x.count(13) + x.count(14) + x.count(15) + x.count(16), 0);
        DUE.same("all else", Twins.answers(x), Twins.answers(Twins.made()));
    }

    private static void dueStays(String call, Consumer<OneWayTillNoon> asks) {
        OneWayTillNoon x = Twins.made();
        asks.accept(x);
        DUE.same("all behind " + call, Twins.answers(x), Twins.answers(Twins.made()));
    }

    private static void askingChangesNothing() {
        dueStays("street", x -> x.street(1, 2));
        dueStays("errand", x -> x.errand(1, 2));
        dueStays("way", x -> x.way(1, 2000));
        dueStays("soonest", x -> x.soonest(1, 2, 2000));
        dueStays("waited", x -> x.waited(1, 2, 2000));
        dueStays("road", x -> x.road(1, 2, 2000, 0));
        dueStays("all", x -> x.all(2000));
        dueStays("longest", x -> x.longest(2000));
        dueStays("apart", x -> x.apart(2000));
        dueStays("can", OneWayTillNoon::can);
        dueStays("bridges", OneWayTillNoon::bridges);
        dueStays("walk", OneWayTillNoon::walk);
        dueStays("cost", OneWayTillNoon::cost);
        dueStays("best", OneWayTillNoon::best);
        dueStays("far", OneWayTillNoon::far);
        dueStays("turning", OneWayTillNoon::turning);
        dueStays("bothWays", x -> x.bothWays(100));
        dueStays("bestNoon", OneWayTillNoon::bestNoon);
        dueStays("lives", OneWayTillNoon::lives);
        dueStays("meets", x -> x.meets(0, 1));
        dueStays("pairs", OneWayTillNoon::pairs);
        dueStays("lanes", x -> x.lanes(0, 0, 100));
        dueStays("shuts", x -> x.shuts(0));
        dueStays("days", x -> x.days(10, 7));
        dueStays("judge", OneWayTillNoon::judge);
        dueStays("count", x -> x.count(0));
    }
}
