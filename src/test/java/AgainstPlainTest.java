/** Long runs of calls of every kind, right and wrong ones, on the class and on PlainExchange side by side. */
final class AgainstPlainTest {
    private static final int RUNS = 400;
    private static final int CALLS = 512;

    private long seed;

    private AgainstPlainTest(long seed) {
        this.seed = seed;
    }

    public static void main(String[] args) {
        for (int run = 0; run < RUNS; run++) {
            new AgainstPlainTest(run).compare(run);
        }
        Script.finish("AgainstPlainTest");
    }

    /** A row of numbers of its own, the same in every run of the tests. */
    private int below(int bound) {
        seed = seed * 6364136223846793005L + 1442695040888963407L;
        return (int) ((seed >>> 33) % bound);
    }

    private void compare(int run) {
        PipewrightExchange real = new PipewrightExchange();
        PlainExchange plain = new PlainExchange();
        int districts = 1 + below(8);
        int pipes = below(24);
        int great = below(4) == 0 ? 1000 : 2 + below(20);
        for (int c = 0; c < CALLS; c++) {
            String call = c < districts ? "district " + below(2 * great) + " " + below(great)
                : c < districts + pipes ? "pipe " + (below(districts + 1) - 1) + " " + below(districts) + " "
                    + (1 + below(great - 1))
                : c == districts + pipes ? "source " + below(6 * great) : next(great);
            String got = Script.answer(real, call);
            String due = Script.answer(plain, call);
            Script.same("run " + run + ", call " + c + ": " + call, got, due);
            if (!got.equals(due)) {
                return;
            }
        }
    }

    private String next(int great) {
        int kind = below(100);
        if (kind < 12) {
            return "pipe " + (below(10) - 2) + " " + below(9) + " " + below(great + 1);
        }
        if (kind < 15) {
            return "source " + (below(2) == 0 ? below(4 * great) : below(10500) - 100);
        }
        if (kind < 17) {
            return "need " + (below(10) - 1) + " " + (below(8) == 0 ? below(1200) - 100 : below(great));
        }
        if (kind < 42) {
            return "bid " + below(9) + " " + price() + " " + (below(20) == 0 ? below(1200) - 100 : below(great));
        }
        if (kind < 54) {
            return "close";
        }
        if (kind < 58) {
            return "burst " + (below(26) - 1);
        }
        if (kind < 61) {
            return "repair " + (below(26) - 1);
        }
        if (kind < 66) {
            return "end";
        }
        if (kind == 66 && below(20) == 0) {
            return "district " + (below(11000) - 500) + " " + (below(1100) - 50);
        }
        return ask();
    }

    private int price() {
        return below(30) == 0 ? below(120) - 10 : below(6);
    }

    private String ask() {
        int district = below(10) - 1;
        switch (below(8)) {
            case 0:
                return "hour";
            case 1:
                return "round";
            case 2:
                return "flowAnew " + district;
            case 3:
                return "most " + (below(260) - 2);
            case 4:
                return "place " + district;
            case 5:
                return "count " + (below(10) - 1);
            default:
                return "ofDistrict " + district + " " + (below(11) - 1);
        }
    }
}
