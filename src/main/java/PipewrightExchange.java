import java.util.ArrayList;

/** A water net whose flows are set by bids; DOC.md's promises say what each call does. */
public final class PipewrightExchange {
    public static final int NONE = -1;

    private static final int MOST_DISTRICTS = 8;
    private static final int MOST_PIPES = 24;
    private static final int MOST_TANK = 9999;
    private static final int MOST_NEED = 999;
    private static final int MOST_LIMIT = 999;
    private static final int MOST_GIVEN = 9999;
    private static final int MOST_PRICE = 99;
    private static final int MOST_UNITS = 999;
    private static final int LAST_ROUND = 4;
    private static final int LAST_HOUR = 1000;

    /** The nodes of the net: 0 is the source, as it is NONE + 1, and d + 1 the district d. */
    private static final int NODES = MOST_DISTRICTS + 1;
    private static final int SOURCE = 0;

    private final ArrayList<District> districts = new ArrayList<>();
    private final Net net = new Net();

    /** The districts whose bids stand, by the places of these. */
    private final ArrayList<District> order = new ArrayList<>();

    private int hour = 0;
    private int round = 0;
    private boolean flowing = false;

    /** How many districts have told a bid in the round of now. */
    private int tellers = 0;

    /** Told bids are numbered through, so that the earlier of two can be known in later rounds. */
    private int turns = 0;

    private int gotInHoursOver = 0;

    public PipewrightExchange() {
    }

    // ---- the net

    public int district(int tank, int need) throws IllegalArgumentException, IllegalStateException {
        if (isOutside(tank, 0, MOST_TANK) || isOutside(need, 0, MOST_NEED)) {
            throw new IllegalArgumentException("tank or need is out of range");
        }
        if (districts.size() >= MOST_DISTRICTS) {
            throw new IllegalStateException("there are 8 districts");
        }
        int number = districts.size();
        districts.add(new District(number, tank, need));
        return number;
    }

    public int pipe(int from, int to, int limit)
            throws IndexOutOfBoundsException, IllegalArgumentException, IllegalStateException {
        if ((from != NONE && isNoDistrict(from)) || isNoDistrict(to)) {
            throw new IndexOutOfBoundsException("no such district");
        }
        if (from == to || isOutside(limit, 1, MOST_LIMIT)) {
            throw new IllegalArgumentException("a pipe to where it comes from, or limit is out of range");
        }
        if (net.pipes.size() >= MOST_PIPES || flowing) {
            throw new IllegalStateException("there are 24 pipes, or all is FLOWING");
        }
        int number = net.pipes.size();
        net.pipes.add(new Pipe(from + 1, to + 1, limit));
        return number;
    }

    public int source(int units) throws IllegalArgumentException, IllegalStateException {
        if (isOutside(units, 0, MOST_GIVEN)) {
            throw new IllegalArgumentException("units is out of range");
        }
        if (flowing) {
            throw new IllegalStateException("all is FLOWING");
        }
        int before = net.given;
        net.given = units;
        return before;
    }

    public int need(int district, int need) throws IndexOutOfBoundsException, IllegalArgumentException {
        if (isNoDistrict(district)) {
            throw new IndexOutOfBoundsException("no such district");
        }
        if (isOutside(need, 0, MOST_NEED)) {
            throw new IllegalArgumentException("need is out of range");
        }
        District one = districts.get(district);
        int before = one.need;
        one.need = need;
        return before;
    }

    // ---- bidding

    public int bid(int district, int price, int units)
            throws IndexOutOfBoundsException, IllegalArgumentException, IllegalStateException {
        if (isNoDistrict(district)) {
            throw new IndexOutOfBoundsException("no such district");
        }
        if (isOutside(price, 0, MOST_PRICE) || isOutside(units, 0, MOST_UNITS)) {
            throw new IllegalArgumentException("price or units is out of range");
        }
        District one = districts.get(district);
        if (flowing || (one.standing.isThere && price < one.standing.price)) {
            throw new IllegalStateException("no BIDDING, or the price is below that of the bid that stands");
        }
        if (!one.told.isThere) {
            tellers++;
        }
        one.told.set(price, units, turns);
        turns++;
        return tellers;
    }

    public boolean close() throws IllegalStateException {
        if (flowing) {
            throw new IllegalStateException("no BIDDING");
        }
        boolean isOver = tellers == 0 || round >= LAST_ROUND;
        for (int d = 0; d < districts.size(); d++) {
            districts.get(d).settleRound();
        }
        tellers = 0;
        orderBids();
        if (isOver) {
            beginFlowing();
        } else {
            round++;
        }
        return isOver;
    }

    // ---- bursts, hours

    public int burst(int pipe) throws IndexOutOfBoundsException, IllegalStateException {
        if (isNoPipe(pipe)) {
            throw new IndexOutOfBoundsException("no such pipe");
        }
        Pipe one = net.pipes.get(pipe);
        if (one.hasBurst) {
            throw new IllegalStateException("it has burst");
        }
        one.hasBurst = true;
        return flowing ? flowLess() : 0;
    }

    public void repair(int pipe) throws IndexOutOfBoundsException, IllegalStateException {
        if (isNoPipe(pipe)) {
            throw new IndexOutOfBoundsException("no such pipe");
        }
        Pipe one = net.pipes.get(pipe);
        if (!one.hasBurst || flowing) {
            throw new IllegalStateException("it has not burst, or all is FLOWING");
        }
        one.hasBurst = false;
    }

    public int end() throws IllegalStateException {
        if (!flowing || hour >= LAST_HOUR) {
            throw new IllegalStateException("there is BIDDING, or the hour would be above 1000");
        }
        int lacking = 0;
        for (int d = 0; d < districts.size(); d++) {
            District one = districts.get(d);
            gotInHoursOver += one.got;
            one.store();
            if (one.takeNeed() > 0) {
                lacking++;
            }
            one.beginHour();
        }
        order.clear();
        flowing = false;
        round = 0;
        hour++;
        return lacking;
    }

    // ---- what is asked

    public int hour() {
        return hour;
    }

    public int round() {
        return flowing ? NONE : round;
    }

    public int ofDistrict(int district, int what) throws IndexOutOfBoundsException {
        if (isNoDistrict(district)) {
            throw new IndexOutOfBoundsException("no such district");
        }
        District one = districts.get(district);
        switch (what) {
            case 0:
                return one.water;
            case 1:
                return one.standing.isThere ? one.standing.price : NONE;
            case 2:
                return one.standing.isThere ? one.standing.units : NONE;
            case 3:
                return one.got;
            case 4:
                return one.paid;
            case 5:
                return one.paidBack;
            case 6:
                return one.took;
            case 7:
                return one.lacked;
            case 8:
                return one.lost;
            default:
                throw new IndexOutOfBoundsException("what is out of range");
        }
    }

    public int flowAnew(int district) throws IndexOutOfBoundsException {
        if (isNoDistrict(district)) {
            throw new IndexOutOfBoundsException("no such district");
        }
        District one = districts.get(district);
        if (!flowing || !one.standing.isThere) {
            return 0;
        }
        int ahead = bidsAheadOf(one);
        return together(ahead + 1) - together(ahead);
    }

    public int most(int set) throws IllegalArgumentException {
        if (set < 0 || set >= 1 << districts.size()) {
            throw new IllegalArgumentException("set is below 0, or has a district that there is not");
        }
        net.empty();
        int units = 0;
        for (int d = 0; d < districts.size(); d++) {
            if ((set >> d & 1) == 1) {
                units += net.pour(districts.get(d).node, MOST_GIVEN);
            }
        }
        return units;
    }

    public int place(int district) throws IndexOutOfBoundsException {
        if (isNoDistrict(district)) {
            throw new IndexOutOfBoundsException("no such district");
        }
        District one = districts.get(district);
        return one.standing.isThere ? bidsAheadOf(one) : NONE;
    }

    public int count(int what) throws IllegalArgumentException {
        switch (what) {
            case 0:
                return districts.size();
            case 1:
                return net.pipes.size();
            case 2:
                return net.countBurst();
            case 3:
                return order.size();
            case 4:
                return sumGot();
            case 5:
                return sumWater();
            case 6:
                return sumPaidLessPaidBack();
            case 7:
                return gotInHoursOver;
            default:
                throw new IllegalArgumentException("what is out of range");
        }
    }

    private static boolean isOutside(int value, int least, int most) {
        return value < least || value > most;
    }

    private boolean isNoDistrict(int district) {
        return district < 0 || district >= districts.size();
    }

    private boolean isNoPipe(int pipe) {
        return pipe < 0 || pipe >= net.pipes.size();
    }

    private void orderBids() {
        order.clear();
        for (int d = 0; d < districts.size(); d++) {
            District one = districts.get(d);
            if (one.standing.isThere) {
                order.add(bidsAheadOf(one), one);
            }
        }
    }

    /** Of the bids in the order so far, which orderBids also asks while it is growing. */
    private int bidsAheadOf(District one) {
        int ahead = 0;
        for (int p = 0; p < order.size(); p++) {
            if (order.get(p).standing.isAheadOf(one.standing)) {
                ahead++;
            }
        }
        return ahead;
    }

    private void beginFlowing() {
        flowing = true;
        for (int p = 0; p < order.size(); p++) {
            District one = order.get(p);
            one.mayGet = one.standing.units;
        }
        findFlows();
        for (int p = 0; p < order.size(); p++) {
            order.get(p).pay();
        }
    }

    /** Finds flows after a burst, by which nobody may get more; returns how much less is got. */
    private int flowLess() {
        for (int p = 0; p < order.size(); p++) {
            District one = order.get(p);
            one.mayGet = one.got;
        }
        findFlows();
        int less = 0;
        for (int p = 0; p < order.size(); p++) {
            less += order.get(p).takeBackPay();
        }
        return less;
    }

    private void findFlows() {
        net.empty();
        for (int p = 0; p < order.size(); p++) {
            District one = order.get(p);
            one.got = net.pour(one.node, one.mayGet);
        }
    }

    /** What can flow to the first so many bids together. */
    private int together(int bids) {
        net.empty();
        int units = 0;
        for (int p = 0; p < bids && p < order.size(); p++) {
            District one = order.get(p);
            units += net.pour(one.node, one.mayGet);
        }
        return units;
    }

    private int sumGot() {
        int sum = 0;
        for (int d = 0; d < districts.size(); d++) {
            sum += districts.get(d).got;
        }
        return sum;
    }

    private int sumWater() {
        int sum = 0;
        for (int d = 0; d < districts.size(); d++) {
            sum += districts.get(d).water;
        }
        return sum;
    }

    private int sumPaidLessPaidBack() {
        int sum = 0;
        for (int d = 0; d < districts.size(); d++) {
            District one = districts.get(d);
            sum += one.paid - one.paidBack;
        }
        return sum;
    }

    private static final class Bid {
        boolean isThere = false;
        int price = 0;
        int units = 0;
        int turn = 0;

        void set(int newPrice, int newUnits, int newTurn) {
            isThere = true;
            price = newPrice;
            units = newUnits;
            turn = newTurn;
        }

        boolean isAheadOf(Bid other) {
            return price != other.price ? price > other.price : turn < other.turn;
        }
    }

    private static final class District {
        final int node;
        final int tank;
        int need;
        int water = 0;

        final Bid standing = new Bid();
        final Bid told = new Bid();
        boolean wasSilent = false;

        /** The units of its bid; from a burst on what it got ahead of that. */
        int mayGet = 0;
        int got = 0;

        int paid = 0;
        int paidBack = 0;
        int took = 0;
        int lacked = 0;
        int lost = 0;

        District(int number, int tank, int need) {
            this.node = number + 1;
            this.tank = tank;
            this.need = need;
        }

        void settleRound() {
            if (told.isThere) {
                standing.set(told.price, told.units, told.turn);
                told.isThere = false;
                wasSilent = false;
            } else {
                if (wasSilent) {
                    standing.isThere = false;
                }
                wasSilent = true;
            }
        }

        void pay() {
            paid += standing.price * got;
        }

        /** Returns how many units less it gets than ahead of the burst. */
        int takeBackPay() {
            int less = mayGet - got;
            int money = standing.price * less;
            paidBack += money + money / 10;
            return less;
        }

        void store() {
            int kept = Math.min(got, tank - water);
            water += kept;
            lost += got - kept;
        }

        /** Returns what it lacks. */
        int takeNeed() {
            int taken = Math.min(need, water);
            int lack = need - taken;
            water -= taken;
            took += taken;
            lacked += lack;
            return lack;
        }

        /** What else is kept of this hour's bidding counts no more, as the next bid sets it anew. */
        void beginHour() {
            standing.isThere = false;
            got = 0;
        }
    }

    private static final class Pipe {
        final int fromNode;
        final int toNode;
        final int limit;
        boolean hasBurst = false;

        Pipe(int fromNode, int toNode, int limit) {
            this.fromNode = fromNode;
            this.toNode = toNode;
            this.limit = limit;
        }
    }

    /** The pipes, and a place to try out what can flow by them; its rows serve every call again. */
    private static final class Net {
        final ArrayList<Pipe> pipes = new ArrayList<>();
        int given = 0;

        private int givenLeft = 0;

        /** Room from node to node: what pipes can still carry, and what flows back can be undone. */
        private final int[][] room = new int[NODES][NODES];

        /** On the ways found last: what can reach a node, 0 if nothing, and the node ahead of it. */
        private final int[] reach = new int[NODES];
        private final int[] ahead = new int[NODES];
        private final int[] found = new int[NODES];

        int countBurst() {
            int burst = 0;
            for (int p = 0; p < pipes.size(); p++) {
                if (pipes.get(p).hasBurst) {
                    burst++;
                }
            }
            return burst;
        }

        void empty() {
            givenLeft = given;
            for (int a = 0; a < NODES; a++) {
                for (int b = 0; b < NODES; b++) {
                    room[a][b] = 0;
                }
            }
            for (int p = 0; p < pipes.size(); p++) {
                Pipe pipe = pipes.get(p);
                if (!pipe.hasBurst && isNode(pipe.fromNode) && isNode(pipe.toNode)) {
                    room[pipe.fromNode][pipe.toNode] += pipe.limit;
                }
            }
        }

        /**
         * Lets as much flow to a node as can, at most the units. What was poured to others stays theirs, as a way
         * only leads their water over other pipes; so this is also the most that all can get together.
         */
        int pour(int node, int units) {
            int wanted = Math.min(units, givenLeft);
            int poured = 0;
            for (int way = 0; way < wanted && poured < wanted; way++) {
                int more = findWay(node, wanted - poured);
                if (more == 0) {
                    break;
                }
                flowOnWay(node, more);
                poured += more;
            }
            givenLeft -= poured;
            return poured;
        }

        /** Finds a way of the fewest pipes; returns what can flow on it, at most the units. */
        private int findWay(int node, int units) {
            for (int n = 0; n < NODES; n++) {
                reach[n] = 0;
            }
            reach[SOURCE] = units;
            found[0] = SOURCE;
            int known = 1;
            for (int f = 0; f < known && f < NODES; f++) {
                int here = found[f];
                for (int next = 0; next < NODES && isNode(here); next++) {
                    if (reach[next] == 0 && room[here][next] > 0 && known < NODES) {
                        reach[next] = Math.min(reach[here], room[here][next]);
                        ahead[next] = here;
                        found[known] = next;
                        known++;
                    }
                }
            }
            return isNode(node) ? reach[node] : 0;
        }

        private void flowOnWay(int node, int units) {
            int to = node;
            for (int step = 0; step < NODES && isNode(to) && to != SOURCE; step++) {
                int from = ahead[to];
                if (isNode(from)) {
                    room[from][to] -= units;
                    room[to][from] += units;
                }
                to = from;
            }
        }

        /** Every number that is kept for a node is one; it is looked at all the same before it is an index. */
        private static boolean isNode(int number) {
            return number >= 0 && number < NODES;
        }
    }
}
