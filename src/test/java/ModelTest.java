import java.util.Random;

/** Runs of calls by seeds, each answered by the class and by the model of it. */
final class ModelTest {
    private static final int RUNS = 150;
    private static final int CALLS = 120;
    private static final int HEAVY_CALLS = 4;

    private static final Due DUE = new Due();
    private static Random random;
    private static OneWayTillNoon x;
    private static Model model;
    private static int heavy;
    private static int most;

    private ModelTest() { }

    public static void main(String[] args) {
        int first = args.length > 0 ? Integer.parseInt(args[0]) : 1;
        int runs = args.length > 1 ? Integer.parseInt(args[1]) : RUNS;
        for (int seed = first; seed < first + runs; seed++) {
            random = new Random(seed);
            x = new OneWayTillNoon();
            model = new Model();
            heavy = 0;
            most = 2 + random.nextInt(13);
            for (int i = 0; i < CALLS; i++) {
                call("seed " + seed + " call " + i + ": ");
            }
        }
        DUE.end();
    }

    private static int below(int limit) {
        return random.nextInt(limit);
    }

    /** A number in 0 .. limit - 1, now and then beside it. */
    private static int near(int limit) {
        return below(12) == 0 ? below(3) == 0 ? random.nextInt() : below(2) == 0 ? -1 : limit : below(limit);
    }

    private static int minute() {
        int noon = Math.max(0, model.set(0, 0));
        model.set(0, noon);
        int pick = below(6);
        if (pick == 0) {
            return noon - 1 + below(3);
        }
        if (pick == 1) {
            return 2879 - below(80);
        }
        return pick == 2 ? near(2880) : below(2880);
    }

    private static String statement() {
        int corners = Math.max(2, model.count(0));
        int a = below(corners);
        int b = below(20) == 0 ? below(10) : (a + 1 + below(Math.max(1, corners - 1))) % corners;
        int pick = below(14);
        if (pick < 7) {
            int minutes = below(30) == 0 ? below(100) : 1 + below(60);
            return "s" + a + b + "," + minutes + (below(3) == 0 ? "b" : "") + ";";
        }
        if (pick < 10) {
            int at = below(30) == 0 ? below(10000) : below(1440);
            return "e" + a + b + "@" + at + "," + (below(30) == 0 ? 0 : 1 + below(9)) + ";";
        }
        if (pick < 12) {
            return "m" + below(Math.max(1, model.count(1) + 1)) + "," + (below(20) == 0 ? below(10) : below(3)) + ";";
        }
        return "k" + (below(3) == 0 ? "0" : "") + (below(6) == 0 ? below(10) : corners) + ";";
    }

    private static String text() {
        StringBuilder text = new StringBuilder();
        int statements = 1 + below(6);
        for (int i = 0; i < statements; i++) {
            text.append(statement());
        }
        if (below(6) == 0) {
            int place = below(text.length());
            String signs = "kse;m,@b0123456789x" + (char) 200;
            switch (below(3)) {
                case 0 -> text.setCharAt(place, signs.charAt(below(signs.length())));
                case 1 -> text.insert(place, signs.charAt(below(signs.length())));
                default -> text.deleteCharAt(place);
            }
        }
        return text.length() > 64 ? text.substring(0, 64) : text.toString();
    }

    private static void tellTown(String where) {
        if (model.count(1) >= most && below(8) > 0) {
            return;
        }
        String text = text();
        for (int from = 0; from < text.length(); from += 8) {
            String few = text.substring(from, Math.min(text.length(), from + 8));
            long bytes = Due.packed(few);
            DUE.due(where + "feed", x.feed(few.length(), bytes), model.feed(few.length(), bytes));
        }
        DUE.due(where + "town of " + text, x.town(), model.town());
        for (int what = 0; what <= 7; what++) {
            DUE.due(where + "count after " + text, x.count(what), model.count(what));
        }
    }

    private static void call(String where) {
        int corners = model.count(0);
        int streets = Math.max(1, model.count(1));
        int errands = Math.max(1, model.count(2));
        int c = near(corners);
        int d = near(corners);
        int s = near(streets);
        int t = minute();
        switch (below(40)) {
            case 0, 1, 2, 3, 4, 5 -> tellTown(where);
            case 6 -> {
                int n = near(10);
                long bytes = random.nextLong();
                DUE.due(where + "feed", x.feed(n, bytes), model.feed(n, bytes));
            }
            case 7 -> {
                int what = near(6);
                DUE.due(where + "street", x.street(s, what), model.street(s, what));
            }
            case 8 -> {
                int e = near(errands);
                int what = near(4);
                DUE.due(where + "errand", x.errand(e, what), model.errand(e, what));
            }
            case 9, 10, 11 -> {
                int what = near(4);
                int v = new int[] {near(1440), near(5), 10 + near(711), near(10), 0}[what < 0 || what > 3 ? 4 : what];
                DUE.due(where + "set " + what + " " + v, x.set(what, v), model.set(what, v));
            }
            case 12, 13 -> {
                int bits = near(1 << model.count(1));
                DUE.due(where + "point " + bits, x.point(bits), model.point(bits));
            }
            case 14 -> {
                boolean is = below(3) == 0;
                DUE.due(where + "shut " + s, x.shut(s, is), model.shut(s, is));
            }
            case 15 -> DUE.due(where + "way " + s + " " + t, x.way(s, t), model.way(s, t));
            case 16 -> DUE.due(where + "soonest", x.soonest(c, d, t), model.soonest(c, d, t));
            case 17 -> DUE.due(where + "waited", x.waited(c, d, t), model.waited(c, d, t));
            case 18 -> {
                int i = below(10) == 0 ? -2 : below(6) - 1;
                DUE.due(where + "road", x.road(c, d, t, i), model.road(c, d, t, i));
            }
            case 19 -> DUE.due(where + "all", x.all(t), model.all(t));
            case 20 -> DUE.due(where + "longest", x.longest(t), model.longest(t));
            case 21 -> DUE.due(where + "apart", x.apart(t), model.apart(t));
            case 22 -> DUE.due(where + "can", x.can(), model.can());
            case 23 -> DUE.due(where + "bridges", x.bridges(), model.bridges());
            case 24 -> DUE.due(where + "walk", x.walk(), model.walk());
            case 25 -> DUE.due(where + "cost", x.cost(), model.cost());
            case 26 -> callRow(where, c);
            case 27 -> DUE.due(where + "lives", x.lives(), model.lives());
            case 28 -> {
                int one = near(errands);
                int other = near(errands);
                DUE.due(where + "meets", x.meets(one, other), model.meets(one, other));
            }
            case 29 -> DUE.due(where + "pairs", x.pairs(), model.pairs());
            case 30 -> DUE.due(where + "shuts", x.shuts(s), model.shuts(s));
            case 31 -> {
                int n = near(4);
                int z = random.nextInt();
                DUE.due(where + "days", x.days(n, z), model.days(n, z));
            }
            case 32 -> DUE.due(where + "judge", x.judge(), model.judge());
            case 33 -> DUE.due(where + "image", x.image(), model.image());
            case 34 -> DUE.due(where + "on", x.on(), model.on());
            case 35 -> {
                int what = below(20) - 1;
                DUE.due(where + "count " + what, x.count(what), model.count(what));
            }
            default -> callHeavy(where, c, t);
        }
    }

    /** Along the streets, so that rounds happen. */
    private static void callRow(String where, int corner) {
        DUE.due(where + "corner", x.corner(corner), model.corner(corner));
        if (below(3) > 0 && model.count(1) > 0) {
            int street = below(model.count(1));
            for (int end = 0; end < 2; end++) {
                int next = model.street(street, end);
                x.street(street, end);
                DUE.due(where + "corner", x.corner(next), model.corner(next));
            }
        }
        if (below(2) == 0) {
            DUE.due(where + "procession", x.procession(), model.procession());
        }
    }

    private static void callHeavy(String where, int c, int t) {
        boolean dear = model.count(1) > 5 && model.count(1) <= 10;
        if (dear && heavy >= HEAVY_CALLS) {
            return;
        }
        heavy += dear ? 1 : 0;
        switch (below(6)) {
            case 0 -> DUE.due(where + "best", x.best(), model.best());
            case 1 -> DUE.due(where + "far", x.far(), model.far());
            case 2 -> DUE.due(where + "turning", x.turning(), model.turning());
            case 3 -> {
                int most = below(8) == 0 ? random.nextInt() : below(1 + model.cost());
                DUE.due(where + "bothWays " + most, x.bothWays(most), model.bothWays(most));
            }
            case 4 -> {
                int within = below(3) == 0 ? near(2880) : below(150);
                DUE.due(where + "lanes", x.lanes(c, t, within), model.lanes(c, t, within));
            }
            default -> DUE.due(where + "bestNoon", x.bestNoon(), model.bestNoon());
        }
    }
}
