import java.util.Arrays;

/**
 * A town of corners and streets that point one way till noon and the other way from then on.
 * Every row is made with the object, so that no call makes anything: all calls of a run share one room.
 */
public final class OneWayTillNoon {
    private static final int MOST_CORNERS = 10;
    private static final int MOST_STREETS = 14;
    private static final int MOST_ERRANDS = 8;
    private static final int MOST_BYTES = 64;
    private static final int MOST_IN_ROW = 10;
    private static final int MOST_DAYS = 10;
    private static final int MOST_TRIED = 10;
    private static final int MOST_ROUNDS = 20;

    private static final int LAST_MINUTE = 2879;
    private static final int DAY_MINUTES = 1440;
    private static final int LONGEST_STREET = 60;
    private static final int NEVER_COSTS = 3000;

    private static final int NOBODY = -1;
    private static final int OTHER = -2;
    private static final int STATE = -3;
    private static final int BELOW = -4;
    private static final int ROOM = -6;
    private static final int NEVER = -9;
    private static final int SHUTS_REFUSED = 1000000000;

    private static final int NO_CORNER = -1;
    private static final int NO_STREET = -1;
    /** Above every minute and every cost that can be. */
    private static final int UNREACHED = 1000000;

    private static final int NOON = 0;
    private static final int RULE = 1;
    private static final int EVERY = 2;
    private static final int DAY = 3;
    private static final int[] LEAST_SETTING = {0, 0, 10, 0};
    private static final int[] GREATEST_SETTING = {1439, 4, 720, 9};

    private static final int RULE_BOTH = 1;
    private static final int RULE_TWICE = 2;
    private static final int RULE_DAILY = 3;
    private static final int RULE_STILL = 4;

    private static final int WAY_BOTH = 2;
    private static final int WAY_NONE = 3;

    private static final int NO_MUST = 2;

    private final Town now = new Town();
    private final Town kept = new Town();
    private final Tape tape = new Tape();
    private final Reader reader = new Reader(tape);
    private final Traffic traffic = new Traffic(now);
    private final Travel travel = new Travel(now, traffic);
    private final Frozen frozen = new Frozen(now, traffic);
    private final Plan plan = new Plan(now);
    private final Ledger ledger = new Ledger(now, travel);
    private final Trials trials = new Trials(now, traffic, travel, frozen, ledger);
    private final Road[] roads = new Road[MOST_ERRANDS];
    private final int[] refusals = new int[7];
    private boolean imageTaken;

    public OneWayTillNoon() {
        for (int i = 0; i < MOST_ERRANDS; i++) {
            roads[i] = new Road(now, traffic, travel);
        }
    }

    public int feed(int n, long bytes) {
        if (n < 1) {
            return refuse(BELOW);
        }
        if (n > 8 || tape.length + n > MOST_BYTES) {
            return refuse(ROOM);
        }
        for (int i = 0; i < n; i++) {
            tape.add((int) (bytes >>> (8 * i)) & 255);
        }
        return tape.length;
    }

    public int town() {
        int answer = reader.readInto(now);
        tape.length = 0;
        return answer;
    }

    public int street(int street, int what) {
        if (!now.hasStreet(street)) {
            return refuse(NOBODY);
        }
        switch (what) {
            case 0:
                return now.tails[street];
            case 1:
                return now.heads[street];
            case 2:
                return now.minutes[street];
            case 3:
                return bitOf(now.broadOnes, street);
            case 4:
                return now.musts[street];
            case 5:
                return bitOf(now.shutOnes, street);
            default:
                return refuse(OTHER);
        }
    }

    public int errand(int errand, int what) {
        if (!now.hasErrand(errand)) {
            return refuse(NOBODY);
        }
        switch (what) {
            case 0:
                return now.froms[errand];
            case 1:
                return now.tos[errand];
            case 2:
                return now.ats[errand];
            case 3:
                return now.worths[errand];
            default:
                return refuse(OTHER);
        }
    }

    public int set(int what, int v) {
        if (what < NOON || what > DAY) {
            return refuse(OTHER);
        }
        if (v < LEAST_SETTING[what]) {
            return refuse(BELOW);
        }
        if (v > GREATEST_SETTING[what]) {
            return refuse(ROOM);
        }
        int before = now.settings[what];
        now.settings[what] = v;
        return before;
    }

    public int point(int bits) {
        if (bits < 0 || bits >= 1 << now.streets) {
            return refuse(NOBODY);
        }
        int before = now.pointing;
        now.pointing = bits;
        return before;
    }

    public int shut(int street, boolean is) {
        if (!now.hasStreet(street)) {
            return refuse(NOBODY);
        }
        boolean was = bitOf(now.shutOnes, street) == 1;
        now.shutOnes ^= was == is ? 0 : 1 << street;
        return was == is ? 0 : 1;
    }

    public int way(int street, int minute) {
        if (!now.hasStreet(street)) {
            return refuse(NOBODY);
        }
        int refusal = refusalOfMinute(minute);
        if (refusal != 0) {
            return refuse(refusal);
        }
        traffic.takeAsItIs();
        traffic.standAt(minute);
        return traffic.wayOf(street);
    }

    public int soonest(int from, int to, int minute) {
        int refusal = refusalOfWay(from, to, minute);
        if (refusal != 0) {
            return refuse(refusal);
        }
        traffic.takeAsItIs();
        travel.setOut(from, to, minute);
        return travel.minuteAt(to);
    }

    public int waited(int from, int to, int minute) {
        int refusal = refusalOfWay(from, to, minute);
        if (refusal != 0) {
            return refuse(refusal);
        }
        traffic.takeAsItIs();
        roads[0].trace(from, to, minute);
        return roads[0].minutesWaited();
    }

    public int road(int from, int to, int minute, int i) {
        int refusal = refusalOfWay(from, to, minute);
        if (refusal != NOBODY && i < -1) {
            refusal = BELOW;
        }
        if (refusal != 0) {
            return refuse(refusal);
        }
        traffic.takeAsItIs();
        roads[0].trace(from, to, minute);
        return i == -1 ? roads[0].length : roads[0].streetAt(i);
    }

    public int all(int minute) {
        int refusal = refusalOfMinute(minute);
        if (refusal != 0) {
            return refuse(refusal);
        }
        freezeAsItIs(minute);
        return frozen.pairsApart() == 0 ? 1 : 0;
    }

    public int longest(int minute) {
        int refusal = refusalOfMinute(minute);
        if (refusal != 0) {
            return refuse(refusal);
        }
        freezeAsItIs(minute);
        return frozen.farthest();
    }

    public int apart(int minute) {
        int refusal = refusalOfMinute(minute);
        if (refusal != 0) {
            return refuse(refusal);
        }
        freezeAsItIs(minute);
        return frozen.pairsApart();
    }

    public int can() {
        return plan.hangsTogether() && plan.bridgeOnes() == 0 ? 1 : 0;
    }

    public int bridges() {
        return plan.bridgeOnes();
    }

    public int walk() {
        return plan.walkThrough();
    }

    public int cost() {
        traffic.takeAsItIs();
        return ledger.total();
    }

    public int best() {
        int refusal = refusalOfTrying();
        if (refusal != 0) {
            return refuse(refusal);
        }
        traffic.takeAsItIs();
        return trials.cheapestPointing();
    }

    public int far() {
        int refusal = refusalOfTrying();
        if (refusal != 0) {
            return refuse(refusal);
        }
        traffic.takeAsItIs();
        return trials.nearestPointing();
    }

    public int turning() {
        traffic.takeAsItIs();
        return trials.turnedPointing();
    }

    public int bothWays(int cost) {
        if (cost < 0) {
            return refuse(BELOW);
        }
        if (now.streets > MOST_TRIED) {
            return refuse(ROOM);
        }
        traffic.takeAsItIs();
        return trials.fewestForCost(cost);
    }

    public int corner(int corner) {
        if (!now.hasCorner(corner)) {
            return refuse(NOBODY);
        }
        if (now.rowLength >= MOST_IN_ROW) {
            return refuse(ROOM);
        }
        now.row[now.rowLength] = corner;
        now.rowLength++;
        return now.rowLength;
    }

    public int procession() {
        if (now.rowLength < 2) {
            return refuse(STATE);
        }
        traffic.takeAsItIs();
        frozen.lay(0);
        int answer = frozen.roundOfRow();
        now.rowLength = 0;
        return answer;
    }

    public int bestNoon() {
        traffic.takeAsItIs();
        return trials.cheapestNoon();
    }

    public int lives() {
        traffic.takeAsItIs();
        return ledger.cheapestHome();
    }

    public int meets(int one, int other) {
        if (!now.hasErrand(one) || !now.hasErrand(other) || one == other) {
            return refuse(NOBODY);
        }
        traffic.takeAsItIs();
        traceErrand(one);
        traceErrand(other);
        return roads[one].crosses(roads[other]) ? 1 : 0;
    }

    public int pairs() {
        traffic.takeAsItIs();
        int never = 0;
        for (int one = 0; one < now.errands; one++) {
            traceErrand(one);
            for (int other = 0; other < one; other++) {
                never += roads[one].crosses(roads[other]) ? 0 : 1;
            }
        }
        return never;
    }

    public int lanes(int corner, int minute, int within) {
        if (!now.hasCorner(corner)) {
            return refuse(NOBODY);
        }
        if (minute < 0 || within < 0) {
            return refuse(BELOW);
        }
        if (minute > LAST_MINUTE || within > LAST_MINUTE || now.streets > MOST_TRIED) {
            return refuse(ROOM);
        }
        traffic.takeAsItIs();
        return trials.fewestForReach(corner, minute, within);
    }

    public int shuts(int street) {
        if (!now.hasStreet(street)) {
            return SHUTS_REFUSED - refuse(NOBODY);
        }
        traffic.takeAsItIs();
        int open = ledger.total();
        traffic.shutAlso(street);
        return ledger.total() - open;
    }

    public int days(int n, int z) {
        if (n < 1) {
            return refuse(BELOW);
        }
        if (n > MOST_DAYS) {
            return refuse(ROOM);
        }
        traffic.takeAsItIs();
        return ledger.totalOfDays(n, z);
    }

    public int judge() {
        int street = now.firstMustUnkept(now.pointing);
        if (street != NO_STREET) {
            return street;
        }
        freezeAsItIs(0);
        return frozen.firstApart();
    }

    public int image() {
        kept.takeFrom(now);
        imageTaken = true;
        return kept.streets;
    }

    public int on() {
        if (!imageTaken) {
            return refuse(STATE);
        }
        now.takeFrom(kept);
        return now.streets;
    }

    public int count(int what) {
        if (what >= 11 && what <= 16) {
            return refusals[what - 10];
        }
        switch (what) {
            case 0:
                return now.corners;
            case 1:
                return now.streets;
            case 2:
                return now.errands;
            case 3:
                return Integer.bitCount(now.broadOnes);
            case 4:
                return now.mustsTold();
            case 5:
                return Integer.bitCount(now.shutOnes);
            case 6:
                return now.rowLength;
            case 7:
                return tape.length;
            default:
                return NEVER;
        }
    }

    private int refuse(int number) {
        if (number <= NOBODY && number >= ROOM) {
            refusals[-number]++;
        }
        return number;
    }

    private int refusalOfMinute(int minute) {
        if (minute < 0) {
            return BELOW;
        }
        return minute > LAST_MINUTE ? ROOM : 0;
    }

    private int refusalOfWay(int from, int to, int minute) {
        if (!now.hasCorner(from) || !now.hasCorner(to)) {
            return NOBODY;
        }
        return refusalOfMinute(minute);
    }

    private int refusalOfTrying() {
        if (now.streets > MOST_TRIED) {
            return ROOM;
        }
        return now.streets == 0 ? STATE : 0;
    }

    private void freezeAsItIs(int minute) {
        traffic.takeAsItIs();
        frozen.lay(minute);
        frozen.join();
    }

    private void traceErrand(int errand) {
        roads[errand].trace(now.froms[errand], now.tos[errand], now.ats[errand]);
    }

    private static int bitOf(int ones, int street) {
        return ones >> street & 1;
    }

    /** All that an image keeps. */
    private static final class Town {
        int corners = 4;
        int streets;
        int errands;
        int rowLength;
        int broadOnes;
        int shutOnes;
        int pointing;
        final int[] tails = new int[MOST_STREETS];
        final int[] heads = new int[MOST_STREETS];
        final int[] minutes = new int[MOST_STREETS];
        final int[] musts = new int[MOST_STREETS];
        final int[] froms = new int[MOST_ERRANDS];
        final int[] tos = new int[MOST_ERRANDS];
        final int[] ats = new int[MOST_ERRANDS];
        final int[] worths = new int[MOST_ERRANDS];
        final int[] row = new int[MOST_IN_ROW];
        final int[] settings = {720, 0, 240, 0};

        void takeFrom(Town other) {
            corners = other.corners;
            streets = other.streets;
            errands = other.errands;
            rowLength = other.rowLength;
            broadOnes = other.broadOnes;
            shutOnes = other.shutOnes;
            pointing = other.pointing;
            System.arraycopy(other.tails, 0, tails, 0, MOST_STREETS);
            System.arraycopy(other.heads, 0, heads, 0, MOST_STREETS);
            System.arraycopy(other.minutes, 0, minutes, 0, MOST_STREETS);
            System.arraycopy(other.musts, 0, musts, 0, MOST_STREETS);
            System.arraycopy(other.froms, 0, froms, 0, MOST_ERRANDS);
            System.arraycopy(other.tos, 0, tos, 0, MOST_ERRANDS);
            System.arraycopy(other.ats, 0, ats, 0, MOST_ERRANDS);
            System.arraycopy(other.worths, 0, worths, 0, MOST_ERRANDS);
            System.arraycopy(other.row, 0, row, 0, MOST_IN_ROW);
            System.arraycopy(other.settings, 0, settings, 0, DAY + 1);
        }

        boolean hasCorner(int corner) {
            return corner >= 0 && corner < corners;
        }

        boolean hasStreet(int street) {
            return street >= 0 && street < streets;
        }

        boolean hasErrand(int errand) {
            return errand >= 0 && errand < errands;
        }

        boolean tellCorners(int many) {
            if (many < 2 || many > MOST_CORNERS || many < cornersToldOf()) {
                return false;
            }
            corners = many;
            return true;
        }

        private int cornersToldOf() {
            int last = NO_CORNER;
            for (int s = 0; s < streets; s++) {
                last = Math.max(last, Math.max(tails[s], heads[s]));
            }
            for (int e = 0; e < errands; e++) {
                last = Math.max(last, Math.max(froms[e], tos[e]));
            }
            return last + 1;
        }

        private boolean areTwoCorners(int one, int other) {
            return hasCorner(one) && hasCorner(other) && one != other;
        }

        boolean tellStreet(int a, int b, int takes, boolean broad) {
            if (!areTwoCorners(a, b) || takes < 1 || takes > LONGEST_STREET || streets >= MOST_STREETS) {
                return false;
            }
            tails[streets] = a;
            heads[streets] = b;
            minutes[streets] = takes;
            musts[streets] = NO_MUST;
            broadOnes |= broad ? 1 << streets : 0;
            streets++;
            return true;
        }

        boolean tellErrand(int from, int to, int at, int worth) {
            if (!areTwoCorners(from, to) || errands >= MOST_ERRANDS) {
                return false;
            }
            if (at < 0 || at >= DAY_MINUTES || worth < 1 || worth > 9) {
                return false;
            }
            froms[errands] = from;
            tos[errands] = to;
            ats[errands] = at;
            worths[errands] = worth;
            errands++;
            return true;
        }

        boolean tellMust(int street, int must) {
            if (!hasStreet(street) || must < 0 || must > NO_MUST) {
                return false;
            }
            musts[street] = must;
            return true;
        }

        int mustsTold() {
            int told = 0;
            for (int s = 0; s < streets; s++) {
                told += musts[s] == NO_MUST ? 0 : 1;
            }
            return told;
        }

        boolean mustLets(int street, int bit) {
            return musts[street] == NO_MUST || musts[street] == bit;
        }

        int firstMustUnkept(int bits) {
            for (int s = 0; s < streets; s++) {
                if (!mustLets(s, bitOf(bits, s))) {
                    return s;
                }
            }
            return NO_STREET;
        }
    }

    private static final class Tape {
        private final int[] bytes = new int[MOST_BYTES];
        int length;

        void add(int value) {
            if (length < MOST_BYTES) {
                bytes[length] = value;
                length++;
            }
        }

        /** Behind the end it is a byte that no statement has, so that what lacks is a fault at the end. */
        int byteAt(int place) {
            return place >= 0 && place < length ? bytes[place] : -1;
        }
    }

    /** Reads the tape twice: how it is written comes ahead of what it says, wherever the faults stand. */
    private static final class Reader {
        private static final int WRITTEN_WRONG = -1000;
        private static final int SAID_WRONG = -2000;

        private final Tape tape;
        private final Town trial = new Town();
        private int place;
        private int letter;
        private int letterPlace;
        private final int[] numbers = new int[4];
        private boolean broad;

        Reader(Tape tape) {
            this.tape = tape;
        }

        /** How many statements came, or the fault; with a fault the town stays. */
        int readInto(Town town) {
            int statements = statementsWritten();
            if (statements < 0) {
                return statements;
            }
            trial.takeFrom(town);
            place = 0;
            for (int i = 0; i < statements; i++) {
                if (!readStatement() || !tell()) {
                    return SAID_WRONG - letterPlace;
                }
            }
            town.takeFrom(trial);
            return statements;
        }

        private int statementsWritten() {
            place = 0;
            for (int read = 0; read <= MOST_BYTES; read++) {
                if (read > 0 && place >= tape.length) {
                    return read;
                }
                if (!readStatement()) {
                    break;
                }
            }
            return WRITTEN_WRONG - place;
        }

        /** False leaves the place at the byte with which it can not go on. */
        private boolean readStatement() {
            letterPlace = place;
            letter = tape.byteAt(place);
            switch (letter) {
                case 'k':
                    place++;
                    return number(0, 2) && sign(';');
                case 's':
                    place++;
                    return number(0, 1) && number(1, 1) && sign(',') && number(2, 2) && broadOrNot() && sign(';');
                case 'e':
                    place++;
                    return number(0, 1) && number(1, 1) && sign('@') && number(2, 4) && sign(',')
                            && number(3, 1) && sign(';');
                case 'm':
                    place++;
                    return number(0, 2) && sign(',') && number(1, 1) && sign(';');
                default:
                    return false;
            }
        }

        private boolean number(int which, int mostDigits) {
            int value = 0;
            int digits = 0;
            while (digits < mostDigits && isDigit(tape.byteAt(place))) {
                value = 10 * value + tape.byteAt(place) - '0';
                digits++;
                place++;
            }
            numbers[which] = value;
            return digits > 0;
        }

        private static boolean isDigit(int value) {
            return value >= '0' && value <= '9';
        }

        private boolean sign(char due) {
            if (tape.byteAt(place) != due) {
                return false;
            }
            place++;
            return true;
        }

        private boolean broadOrNot() {
            broad = sign('b');
            return true;
        }

        private boolean tell() {
            switch (letter) {
                case 'k':
                    return trial.tellCorners(numbers[0]);
                case 's':
                    return trial.tellStreet(numbers[0], numbers[1], numbers[2], broad);
                case 'e':
                    return trial.tellErrand(numbers[0], numbers[1], numbers[2], numbers[3]);
                case 'm':
                    return trial.tellMust(numbers[0], numbers[1]);
                default:
                    return false;
            }
        }
    }

    /** How the streets may be gone. Trials change it and leave the town as it is. */
    private static final class Traffic {
        private final Town town;
        private int rule;
        private int noon;
        private int every;
        private int bits;
        private int shutOnes;
        private int openOnes;
        private int minute;
        private int nextTurn;
        private int bitsThen;

        Traffic(Town town) {
            this.town = town;
        }

        void takeAsItIs() {
            rule = town.settings[RULE];
            noon = town.settings[NOON];
            every = town.settings[EVERY];
            shutOnes = town.shutOnes;
            openBothWays(0);
            pointAs(town.pointing);
        }

        void pointAs(int pointing) {
            boolean otherDay = rule == RULE_DAILY && (town.settings[DAY] & 1) == 1;
            bits = otherDay ? ~pointing : pointing;
        }

        void openBothWays(int ones) {
            openOnes = rule == RULE_BOTH ? town.broadOnes | ones : ones;
        }

        void shutAlso(int street) {
            shutOnes = town.shutOnes | 1 << street;
        }

        void turnAt(int otherNoon) {
            noon = otherNoon;
        }

        /** All streets turn together, so what a minute tells of turns is found once for all of them. */
        void standAt(int atMinute) {
            int turns = 0;
            int turn = NEVER;
            if (rule != RULE_STILL && atMinute < noon) {
                turn = noon;
            } else if (rule == RULE_TWICE && every > 0) {
                turns = 1 + (atMinute - noon) / every;
                turn = noon + turns * every;
            } else if (rule != RULE_STILL) {
                turns = 1;
            }
            minute = atMinute;
            nextTurn = turn > LAST_MINUTE ? NEVER : turn;
            bitsThen = (turns & 1) == 1 ? ~bits : bits;
        }

        int wayOf(int street) {
            if (bitOf(shutOnes, street) == 1) {
                return WAY_NONE;
            }
            return bitOf(openOnes, street) == 1 ? WAY_BOTH : bitOf(bitsThen, street);
        }

        /** The first minute, from that at which one stands on, at which the street can be entered so. */
        int entryOf(int street, int direction) {
            if (minute > LAST_MINUTE || (shutOnes >> street & 1) == 1) {
                return NEVER;
            }
            return (openOnes >> street & 1) == 1 || (bitsThen >> street & 1) == direction ? minute : nextTurn;
        }
    }

    /** Soonest minutes at corners. Who comes sooner never leaves later, so each corner is gone on from once. */
    private static final class Travel {
        private final Town town;
        private final Traffic traffic;
        private final int[] soonestAt = new int[MOST_CORNERS];
        private int settled;

        Travel(Town town, Traffic traffic) {
            this.town = town;
            this.traffic = traffic;
        }

        /** Ends at the target, as what is farther is not asked for; NO_CORNER goes everywhere. */
        void setOut(int from, int target, int minute) {
            Arrays.fill(soonestAt, UNREACHED);
            soonestAt[from] = minute;
            settled = 0;
            for (int i = 0; i < town.corners; i++) {
                int corner = soonestUnsettled();
                if (corner == NO_CORNER || corner == target) {
                    return;
                }
                settled |= 1 << corner;
                goOnFrom(corner);
            }
        }

        int minuteAt(int corner) {
            return soonestAt[corner] == UNREACHED ? NEVER : soonestAt[corner];
        }

        private int soonestUnsettled() {
            int corner = NO_CORNER;
            int least = UNREACHED;
            for (int c = 0; c < town.corners; c++) {
                if (soonestAt[c] < least && bitOf(settled, c) == 0) {
                    corner = c;
                    least = soonestAt[c];
                }
            }
            return corner;
        }

        private void goOnFrom(int corner) {
            traffic.standAt(soonestAt[corner]);
            for (int s = 0; s < town.streets; s++) {
                if (town.tails[s] == corner) {
                    goAlong(s, town.heads[s], traffic.entryOf(s, 0));
                } else if (town.heads[s] == corner) {
                    goAlong(s, town.tails[s], traffic.entryOf(s, 1));
                }
            }
        }

        private void goAlong(int street, int to, int entry) {
            if (entry != NEVER && entry + town.minutes[street] < soonestAt[to]) {
                soonestAt[to] = entry + town.minutes[street];
            }
        }
    }

    /** A road is found from its end, so its rows stand backward: the end has place 0. */
    private static final class Road {
        private final Town town;
        private final Traffic traffic;
        private final Travel travel;
        private final int[] streets = new int[MOST_CORNERS];
        private final int[] corners = new int[MOST_CORNERS];
        private final int[] comes = new int[MOST_CORNERS];
        private final int[] goes = new int[MOST_CORNERS];
        /** How many streets; NEVER of a road that there is not. */
        int length;

        Road(Town town, Traffic traffic, Travel travel) {
            this.town = town;
            this.traffic = traffic;
            this.travel = travel;
        }

        void trace(int from, int to, int minute) {
            travel.setOut(from, NO_CORNER, minute);
            length = NEVER;
            if (travel.minuteAt(to) == NEVER) {
                return;
            }
            length = 0;
            corners[0] = to;
            comes[0] = travel.minuteAt(to);
            goes[0] = comes[0];
            for (int i = 1; i < MOST_CORNERS && corners[length] != from; i++) {
                if (!traceBack()) {
                    return;
                }
            }
        }

        private boolean traceBack() {
            for (int s = 0; s < town.streets; s++) {
                if (town.heads[s] == corners[length] && cameBy(s, 0, town.tails[s])) {
                    return true;
                }
                if (town.tails[s] == corners[length] && cameBy(s, 1, town.heads[s])) {
                    return true;
                }
            }
            return false;
        }

        private boolean cameBy(int street, int direction, int corner) {
            int came = travel.minuteAt(corner);
            if (came == NEVER || length + 1 >= MOST_CORNERS) {
                return false;
            }
            traffic.standAt(came);
            int entry = traffic.entryOf(street, direction);
            if (entry == NEVER || entry + town.minutes[street] != comes[length]) {
                return false;
            }
            streets[length] = street;
            length++;
            corners[length] = corner;
            comes[length] = came;
            goes[length] = entry;
            return true;
        }

        int streetAt(int i) {
            return i >= 0 && i < length ? streets[length - 1 - i] : NEVER;
        }

        int minutesWaited() {
            if (length == NEVER) {
                return NEVER;
            }
            int sum = 0;
            for (int i = 0; i <= length; i++) {
                sum += goes[i] - comes[i];
            }
            return sum;
        }

        /** A road that there is not has a length below 0, so that it crosses none. */
        boolean crosses(Road other) {
            for (int i = 0; i <= length; i++) {
                for (int j = 0; j <= other.length; j++) {
                    if (corners[i] == other.corners[j] && comes[i] <= other.goes[j] && other.comes[j] <= goes[i]) {
                        return true;
                    }
                }
            }
            return false;
        }
    }

    /** The streets as they point at one minute, for ever. */
    private static final class Frozen {
        private final Town town;
        private final Traffic traffic;
        private final int[][] least = new int[MOST_CORNERS][MOST_CORNERS];

        Frozen(Town town, Traffic traffic) {
            this.town = town;
            this.traffic = traffic;
        }

        void lay(int minute) {
            for (int c = 0; c < MOST_CORNERS; c++) {
                Arrays.fill(least[c], UNREACHED);
            }
            traffic.standAt(minute);
            for (int s = 0; s < town.streets; s++) {
                int way = traffic.wayOf(s);
                if (way == 0 || way == WAY_BOTH) {
                    layStep(town.tails[s], town.heads[s], town.minutes[s]);
                }
                if (way == 1 || way == WAY_BOTH) {
                    layStep(town.heads[s], town.tails[s], town.minutes[s]);
                }
            }
        }

        private void layStep(int from, int to, int takes) {
            least[from][to] = Math.min(least[from][to], takes);
        }

        /** From single streets to whole ways, by one more corner between at a time. */
        void join() {
            for (int by = 0; by < town.corners; by++) {
                for (int from = 0; from < town.corners; from++) {
                    if (least[from][by] < UNREACHED) {
                        joinBy(least[from], least[by], least[from][by]);
                    }
                }
            }
        }

        private void joinBy(int[] fromHere, int[] fromThere, int between) {
            for (int to = 0; to < town.corners; to++) {
                fromHere[to] = Math.min(fromHere[to], between + fromThere[to]);
            }
        }

        int pairsApart() {
            int many = 0;
            for (int from = 0; from < town.corners; from++) {
                for (int to = 0; to < town.corners; to++) {
                    many += isApart(from, to) ? 1 : 0;
                }
            }
            return many;
        }

        int firstApart() {
            for (int from = 0; from < town.corners; from++) {
                for (int to = 0; to < town.corners; to++) {
                    if (isApart(from, to)) {
                        return 100 + 10 * from + to;
                    }
                }
            }
            return NEVER;
        }

        private boolean isApart(int from, int to) {
            return from != to && least[from][to] >= UNREACHED;
        }

        int farthest() {
            int greatest = 0;
            for (int from = 0; from < town.corners; from++) {
                for (int to = 0; to < town.corners; to++) {
                    if (isApart(from, to)) {
                        return NEVER;
                    }
                    greatest = from == to ? greatest : Math.max(greatest, least[from][to]);
                }
            }
            return greatest;
        }

        /** Of the single streets, so ahead of any join; no street leads from a corner to itself. */
        int roundOfRow() {
            int sum = 0;
            for (int i = 0; i < town.rowLength; i++) {
                int next = i + 1 < town.rowLength ? i + 1 : 0;
                int step = least[town.row[i]][town.row[next]];
                if (step >= UNREACHED) {
                    return NEVER;
                }
                sum += step;
            }
            return sum;
        }
    }

    /** The streets without any pointing, rule or shut one. */
    private static final class Plan {
        private final Town town;
        private final int[] cameFrom = new int[MOST_CORNERS];
        private final int[] nextStreet = new int[MOST_CORNERS];

        Plan(Town town) {
            this.town = town;
        }

        boolean hangsTogether() {
            return cornersFrom(0, NO_STREET) == (1 << town.corners) - 1;
        }

        int bridgeOnes() {
            int ones = 0;
            for (int s = 0; s < town.streets; s++) {
                int together = cornersFrom(town.tails[s], s);
                ones |= bitOf(together, town.heads[s]) == 0 ? 1 << s : 0;
            }
            return ones;
        }

        private int cornersFrom(int corner, int without) {
            int come = 1 << corner;
            for (int i = 0; i < town.corners; i++) {
                for (int s = 0; s < town.streets; s++) {
                    int ends = 1 << town.tails[s] | 1 << town.heads[s];
                    come |= s != without && (come & ends) != 0 ? ends : 0;
                }
            }
            return come;
        }

        /** Each step looks at one more street of a corner or goes back from it, so their number is bounded. */
        int walkThrough() {
            Arrays.fill(nextStreet, 0);
            cameFrom[0] = NO_CORNER;
            int seen = 1;
            int gone = 0;
            int bits = 0;
            int corner = 0;
            for (int step = 0; step < MOST_CORNERS * (MOST_STREETS + 1) && corner != NO_CORNER; step++) {
                int street = nextStreet[corner];
                if (street >= town.streets) {
                    corner = cameFrom[corner];
                    continue;
                }
                nextStreet[corner]++;
                int other = otherEnd(street, corner);
                if (other == NO_CORNER || bitOf(gone, street) == 1) {
                    continue;
                }
                gone |= 1 << street;
                bits |= town.heads[street] == corner ? 1 << street : 0;
                if (bitOf(seen, other) == 0) {
                    seen |= 1 << other;
                    cameFrom[other] = corner;
                    corner = other;
                }
            }
            return bits;
        }

        private int otherEnd(int street, int corner) {
            if (town.tails[street] == corner) {
                return town.heads[street];
            }
            return town.heads[street] == corner ? town.tails[street] : NO_CORNER;
        }
    }

    /** What the errands cost. */
    private static final class Ledger {
        private final Town town;
        private final Travel travel;
        private int seed;

        Ledger(Town town, Travel travel) {
            this.town = town;
            this.travel = travel;
        }

        int total() {
            return totalUpTo(UNREACHED);
        }

        /** The whole cost if it is below that much, else some number that is not: a trial need not know more. */
        int totalUpTo(int much) {
            int sum = 0;
            for (int e = 0; e < town.errands && sum < much; e++) {
                sum += town.worths[e] * minutesOf(town.froms[e], town.tos[e], town.ats[e]);
            }
            return sum;
        }

        private int minutesOf(int from, int to, int at) {
            travel.setOut(from, to, at);
            int arrival = travel.minuteAt(to);
            return arrival == NEVER ? NEVER_COSTS : arrival - at;
        }

        int cheapestHome() {
            int home = 0;
            int least = UNREACHED;
            for (int corner = 0; corner < town.corners; corner++) {
                int sum = 0;
                for (int e = 0; e < town.errands && sum < least; e++) {
                    sum += town.worths[e] * minutesOf(corner, town.tos[e], town.ats[e]);
                }
                if (sum < least) {
                    least = sum;
                    home = corner;
                }
            }
            return home;
        }

        int totalOfDays(int many, int firstSeed) {
            seed = firstSeed;
            int sum = 0;
            for (int day = 0; day < many; day++) {
                for (int e = 0; e < town.errands; e++) {
                    sum += town.worths[e] * minutesOf(town.froms[e], town.tos[e], drawBelow(DAY_MINUTES));
                }
            }
            return sum;
        }

        private int drawBelow(int limit) {
            seed = seed * 1664525 + 1013904223;
            return limit < 1 ? 0 : (seed & 0x7fffffff) / 256 % limit;
        }
    }

    /** Pointings, lanes and noons tried in mind. */
    private static final class Trials {
        private final Town town;
        private final Traffic traffic;
        private final Travel travel;
        private final Frozen frozen;
        private final Ledger ledger;

        Trials(Town town, Traffic traffic, Travel travel, Frozen frozen, Ledger ledger) {
            this.town = town;
            this.traffic = traffic;
            this.travel = travel;
            this.frozen = frozen;
            this.ledger = ledger;
        }

        int cheapestPointing() {
            int found = NEVER;
            int least = UNREACHED;
            for (int bits = 0; bits < 1 << town.streets; bits++) {
                if (town.firstMustUnkept(bits) != NO_STREET) {
                    continue;
                }
                traffic.pointAs(bits);
                int cost = ledger.totalUpTo(least);
                if (cost < least) {
                    least = cost;
                    found = bits;
                }
            }
            return found;
        }

        int nearestPointing() {
            int found = NEVER;
            int least = UNREACHED;
            for (int bits = 0; bits < 1 << town.streets; bits++) {
                if (town.firstMustUnkept(bits) != NO_STREET) {
                    continue;
                }
                traffic.pointAs(bits);
                frozen.lay(0);
                frozen.join();
                int farthest = frozen.farthest();
                if (farthest != NEVER && farthest < least) {
                    least = farthest;
                    found = bits;
                }
            }
            return found;
        }

        int turnedPointing() {
            int bits = town.pointing;
            int least = ledger.totalUpTo(UNREACHED);
            boolean turned = true;
            for (int round = 0; round < MOST_ROUNDS && turned; round++) {
                turned = false;
                for (int s = 0; s < town.streets; s++) {
                    int other = bits ^ 1 << s;
                    if (!town.mustLets(s, bitOf(other, s))) {
                        continue;
                    }
                    traffic.pointAs(other);
                    int cost = ledger.totalUpTo(least);
                    if (cost < least) {
                        least = cost;
                        bits = other;
                        turned = true;
                    }
                }
            }
            return bits;
        }

        /** More streets gone both ways never make one later, so all of them are tried ahead of the few. */
        int fewestForCost(int most) {
            int tooMuch = Math.min(most, UNREACHED) + 1;
            traffic.openBothWays((1 << town.streets) - 1);
            if (ledger.totalUpTo(tooMuch) > most) {
                return NEVER;
            }
            int ones = 0;
            for (int i = 0; i < 1 << town.streets; i++) {
                traffic.openBothWays(ones);
                if (ledger.totalUpTo(tooMuch) <= most) {
                    return ones;
                }
                ones = nextByFewest(ones);
            }
            return NEVER;
        }

        int fewestForReach(int corner, int minute, int within) {
            traffic.openBothWays((1 << town.streets) - 1);
            travel.setOut(corner, NO_CORNER, minute);
            if (!allReachedBy(minute + within)) {
                return NEVER;
            }
            int ones = 0;
            for (int i = 0; i < 1 << town.streets; i++) {
                traffic.openBothWays(ones);
                travel.setOut(corner, NO_CORNER, minute);
                if (allReachedBy(minute + within)) {
                    return ones;
                }
                ones = nextByFewest(ones);
            }
            return NEVER;
        }

        private boolean allReachedBy(int last) {
            for (int c = 0; c < town.corners; c++) {
                int minute = travel.minuteAt(c);
                if (minute == NEVER || minute > last) {
                    return false;
                }
            }
            return true;
        }

        /** The next set of streets by how many they are, then by bits: the first that does is the answer. */
        private int nextByFewest(int ones) {
            int lowest = ones & -ones;
            if (lowest != 0) {
                int carried = ones + lowest;
                int next = carried | ((ones ^ carried) >>> 2) / lowest;
                if (next < 1 << town.streets) {
                    return next;
                }
            }
            return (2 << Integer.bitCount(ones)) - 1;
        }

        int cheapestNoon() {
            int found = 0;
            int least = UNREACHED;
            for (int noon = 0; noon < DAY_MINUTES; noon += 60) {
                traffic.turnAt(noon);
                int cost = ledger.totalUpTo(least);
                if (cost < least) {
                    least = cost;
                    found = noon;
                }
            }
            return found;
        }
    }
}
