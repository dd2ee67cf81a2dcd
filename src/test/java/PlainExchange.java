import java.util.ArrayList;
import java.util.List;

/**
 * A second way to the document's answers, to compare with: bids are kept as told with their rounds and looked up
 * anew each time, and what can flow is the least cut of all sets of districts instead of ways that are found.
 */
final class PlainExchange {
    private record Bid(int hour, int round, int district, int price, int units) { }

    private record Pipe(int from, int to, int limit) { }

    private static final int ENOUGH = 1_000_000;

    private final List<int[]> districts = new ArrayList<>(); // tank, need, then as ofDistrict tells: 0, 4 to 8
    private final List<Pipe> pipes = new ArrayList<>();
    private final List<Integer> burst = new ArrayList<>();
    private final List<Bid> bids = new ArrayList<>();
    private final int[] got = new int[8];
    private int source = 0;
    private int hour = 0;
    private int round = 0;
    private int closed = -1;
    private int gotBefore = 0;

    int district(int tank, int need) {
        argument(tank >= 0 && tank <= 9999 && need >= 0 && need <= 999);
        state(districts.size() < 8);
        districts.add(new int[] {0, tank, need, 0, 0, 0, 0, 0, 0});
        return districts.size() - 1;
    }

    int pipe(int from, int to, int limit) {
        index(from >= -1 && from < districts.size() && to >= 0 && to < districts.size());
        argument(from != to && limit >= 1 && limit <= 999);
        state(pipes.size() < 24 && round != -1);
        pipes.add(new Pipe(from, to, limit));
        return pipes.size() - 1;
    }

    int source(int units) {
        argument(units >= 0 && units <= 9999);
        state(round != -1);
        int before = source;
        source = units;
        return before;
    }

    int need(int district, int need) {
        index(district >= 0 && district < districts.size());
        argument(need >= 0 && need <= 999);
        int before = districts.get(district)[2];
        districts.get(district)[2] = need;
        return before;
    }

    int bid(int district, int price, int units) {
        index(district >= 0 && district < districts.size());
        argument(price >= 0 && price <= 99 && units >= 0 && units <= 999);
        Bid stands = standing(district);
        state(round != -1 && (stands == null || price >= stands.price));
        bids.add(new Bid(hour, round, district, price, units));
        return toldIn(round);
    }

    boolean close() {
        state(round != -1);
        boolean over = toldIn(round) == 0 || round == 4;
        closed = round;
        round = over ? -1 : round + 1;
        if (over) {
            find(null);
            for (Bid b : order()) {
                districts.get(b.district)[4] += b.price * got[b.district];
            }
        }
        return over;
    }

    int burst(int pipe) {
        index(pipe >= 0 && pipe < pipes.size());
        state(!burst.contains(pipe));
        burst.add(pipe);
        if (round != -1) {
            return 0;
        }
        int[] before = got.clone();
        find(before);
        int less = 0;
        for (Bid b : order()) {
            int units = before[b.district] - got[b.district];
            districts.get(b.district)[5] += units * b.price + (units * b.price) / 10;
            less += units;
        }
        return less;
    }

    void repair(int pipe) {
        index(pipe >= 0 && pipe < pipes.size());
        state(burst.contains(pipe) && round != -1);
        burst.remove(Integer.valueOf(pipe));
    }

    int end() {
        state(round == -1 && hour < 1000);
        int lacking = 0;
        for (int d = 0; d < districts.size(); d++) {
            int[] one = districts.get(d);
            gotBefore += got[d];
            int inTank = Math.min(one[1], one[0] + got[d]);
            one[8] += one[0] + got[d] - inTank;
            one[0] = Math.max(0, inTank - one[2]);
            one[6] += inTank - one[0];
            one[7] += one[2] - (inTank - one[0]);
            lacking += inTank < one[2] ? 1 : 0;
            got[d] = 0;
        }
        hour++;
        round = 0;
        closed = -1;
        return lacking;
    }

    int hour() {
        return hour;
    }

    int round() {
        return round;
    }

    int ofDistrict(int district, int what) {
        index(district >= 0 && district < districts.size() && what >= 0 && what <= 8);
        Bid stands = standing(district);
        return switch (what) {
            case 1 -> stands == null ? -1 : stands.price;
            case 2 -> stands == null ? -1 : stands.units;
            case 3 -> got[district];
            default -> districts.get(district)[what];
        };
    }

    int flowAnew(int district) {
        index(district >= 0 && district < districts.size());
        return got[district];
    }

    int most(int set) {
        argument(set >= 0 && set < Math.pow(2, districts.size()));
        int[] all = new int[8];
        for (int d = 0; d < 8; d++) {
            all[d] = (set & (1 << d)) != 0 ? ENOUGH : 0;
        }
        return leastCut(all);
    }

    int place(int district) {
        index(district >= 0 && district < districts.size());
        return standing(district) == null ? -1 : order().indexOf(standing(district));
    }

    int count(int what) {
        argument(what >= 0 && what <= 7);
        int sum = 0;
        for (int d = 0; d < districts.size(); d++) {
            int[] one = districts.get(d);
            sum += what == 4 ? got[d] : what == 5 ? one[0] : what == 6 ? one[4] - one[5] : 0;
        }
        return switch (what) {
            case 0 -> districts.size();
            case 1 -> pipes.size();
            case 2 -> burst.size();
            case 3 -> order().size();
            case 7 -> gotBefore;
            default -> sum;
        };
    }

    private static void index(boolean right) {
        if (!right) {
            throw new IndexOutOfBoundsException();
        }
    }

    private static void argument(boolean right) {
        if (!right) {
            throw new IllegalArgumentException();
        }
    }

    private static void state(boolean right) {
        if (!right) {
            throw new IllegalStateException();
        }
    }

    private int toldIn(int when) {
        int tellers = 0;
        for (int d = 0; d < districts.size(); d++) {
            int district = d;
            boolean told = bids.stream().anyMatch(b -> b.hour == hour && b.round == when && b.district == district);
            tellers += told ? 1 : 0;
        }
        return tellers;
    }

    /** The latest bid of the two rounds closed last, in this hour. */
    private Bid standing(int district) {
        Bid stands = null;
        for (Bid b : bids) {
            if (b.hour == hour && b.district == district && b.round <= closed && b.round >= closed - 1) {
                stands = b;
            }
        }
        return stands;
    }

    private List<Bid> order() {
        List<Bid> order = new ArrayList<>();
        for (int price = 99; price >= 0; price--) {
            for (int i = 0; i < bids.size(); i++) {
                Bid b = bids.get(i);
                // By identity: a bid told twice in the same words stands once, where it was told last.
                if (b.price == price && standing(b.district) == b) {
                    order.add(b);
                }
            }
        }
        return order;
    }

    private void find(int[] before) {
        int[] upTo = new int[8];
        int sofar = 0;
        for (Bid b : order()) {
            upTo[b.district] = before == null ? b.units : before[b.district];
            int together = leastCut(upTo);
            got[b.district] = together - sofar;
            sofar = together;
        }
    }

    /** The least that has to be cut between the source and districts that take up to so much. */
    private int leastCut(int[] upTo) {
        int least = source;
        for (int side = 0; side < 256; side++) {
            int cut = 0;
            for (int d = 0; d < 8; d++) {
                cut += (side & (1 << d)) != 0 ? upTo[d] : 0;
            }
            for (int p = 0; p < pipes.size(); p++) {
                Pipe pipe = pipes.get(p);
                boolean fromSide = pipe.from == -1 || (side & (1 << pipe.from)) != 0;
                boolean toSide = (side & (1 << pipe.to)) != 0;
                cut += fromSide && !toSide && !burst.contains(p) ? pipe.limit : 0;
            }
            least = Math.min(least, cut);
        }
        return least;
    }
}
