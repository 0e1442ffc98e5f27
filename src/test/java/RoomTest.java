import java.lang.management.ManagementFactory;

/** All calls of a run live in one room: once an object is made, no call makes anything more. */
final class RoomTest {
    private static final int CALLS = 512;
    /** What the measuring itself may make; one small row a call would be above it. */
    private static final int SLACK = 8000;

    private RoomTest() { }

    public static void main(String[] args) {
        Due due = new Due();
        madeBy(CALLS);
        long made = madeBy(CALLS);
        due.due("bytes made by " + CALLS + " calls: " + made + ", too many", made > SLACK ? 1 : 0, 0);
        due.end();
    }

    private static long madeBy(int calls) {
        OneWayTillNoon x = Due.townOf("k5;s01,10;s12,20b;s20,30;s23,1;s34,5;", "e03@700,1;e41@3,2;e24@5,7;m1,1;");
        com.sun.management.ThreadMXBean threads = (com.sun.management.ThreadMXBean) ManagementFactory.getThreadMXBean();
        long before = threads.getThreadAllocatedBytes(Thread.currentThread().getId());
        int sum = 0;
        for (int i = 0; i < calls; i++) {
            sum += callOf(x, i % 33);
        }
        long after = threads.getThreadAllocatedBytes(Thread.currentThread().getId());
        return sum == Integer.MIN_VALUE ? 0 : after - before;
    }

    private static int callOf(OneWayTillNoon x, int which) {
        return which < 16 ? earlyCall(x, which) : lateCall(x, which);
    }

    private static int earlyCall(OneWayTillNoon x, int which) {
        return switch (which) {
            case 0 -> x.feed(3, 3879019L);
            case 1 -> x.town();
            case 2 -> x.street(0, 1);
            case 3 -> x.errand(0, 1);
            case 4 -> x.set(0, 700);
            case 5 -> x.point(3);
            case 6 -> x.shut(1, false);
            case 7 -> x.way(0, 5);
            case 8 -> x.soonest(0, 4, 5);
            case 9 -> x.waited(0, 4, 5);
            case 10 -> x.road(0, 4, 5, 0);
            case 11 -> x.all(5);
            case 12 -> x.longest(5);
            case 13 -> x.apart(5);
            case 14 -> x.can();
            default -> x.bridges();
        };
    }

    private static int lateCall(OneWayTillNoon x, int which) {
        return switch (which) {
            case 16 -> x.walk();
            case 17 -> x.cost();
            case 18 -> x.best();
            case 19 -> x.far();
            case 20 -> x.turning();
            case 21 -> x.bothWays(300);
            case 22 -> x.corner(1);
            case 23 -> x.corner(2);
            case 24 -> x.procession();
            case 25 -> x.bestNoon();
            case 26 -> x.lives();
            case 27 -> x.meets(0, 1) + x.pairs();
            case 28 -> x.lanes(0, 0, 50) + x.shuts(1);
            case 29 -> x.days(3, 4);
            case 30 -> x.judge();
            case 31 -> x.image();
            default -> x.on() + x.count(0);
        };
    }
}
