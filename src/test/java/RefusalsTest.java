/**
 * "A call that throws an exception changes nothing. If several apply, the one that the throws clause names first is
 * thrown": each pair of exceptions that can apply together, in each state that brings one of them. Script.refuses also
 * looks at what the refused call leaves behind.
 */
final class RefusalsTest {
    private static final String INDEX = Script.INDEX;
    private static final String ARGUMENT = Script.ARGUMENT;
    private static final String STATE = Script.STATE;

    public static void main(String[] args) {
        district();
        pipe();
        source();
        need();
        bid();
        bursts();
        asked();
        others();
        changesNothing();
        Script.finish("RefusalsTest");
    }

    /** Two districts with bids of 5 and 0 that stand; in the round 1. */
    private static Script standing(String name) {
        Script x = new Script(name).run("source 20; district 9 3; district 9 4; pipe -1 0 8; pipe 0 1 5; pipe -1 1 2");
        return x.run("bid 0 5 7; bid 1 0 6; close");
    }

    private static Script flowing(String name) {
        return standing(name).run("bid 0 5 7; close; close; burst 2");
    }

    private static Script fullOfPipes(String name) {
        Script x = standing(name);
        for (int p = 3; p < 24; p++) {
            x.run("pipe 1 0 1 = " + p);
        }
        return x;
    }

    private static void district() {
        Script x = standing("Refused: district");
        for (int d = 2; d < 8; d++) {
            x.refuses("district -1 1000", ARGUMENT).run("district " + d + " 0 = " + d);
        }
        x.refuses("district -1 0; district 10000 0; district 0 -1; district 0 1000; district -1 1000", ARGUMENT);
        x.refuses("district 0 0", STATE).run("close").refuses("district 0 1000; district 10000 0", ARGUMENT);
        x.refuses("district 0 0; district 9999 999", STATE);
    }

    private static void pipe() {
        Script x = standing("Refused: pipe, no district and more");
        x.refuses("pipe -2 -2 1; pipe -1 -1 1; pipe 2 2 1; pipe -2 0 0; pipe 2 0 1000; pipe 0 2 0; pipe 0 -1 1000", INDEX);
        x.refuses("pipe 7 7 -1; pipe -1 2 0", INDEX).refuses("pipe 0 0 0; pipe 1 1 1000; pipe 0 0 7", ARGUMENT);
        Script full = fullOfPipes("Refused: pipe, 24 of them and more");
        full.refuses("pipe -2 0 1; pipe 0 2 1; pipe -1 -1 1; pipe -2 -2 0", INDEX);
        full.refuses("pipe 0 0 1; pipe 0 1 0; pipe -1 0 1000; pipe 1 1 0", ARGUMENT).refuses("pipe 0 1 1", STATE);
        full.run("bid 0 5 7; close; close").refuses("pipe 2 0 1; pipe -2 -2 0", INDEX).refuses("pipe 0 0 1", ARGUMENT);
        full.refuses("pipe 0 1 1", STATE);
        Script y = flowing("Refused: pipe, FLOWING and more");
        y.refuses("pipe -2 0 1; pipe 2 0 1; pipe 0 2 1; pipe 0 -1 1; pipe -1 -1 1; pipe -2 -2 0", INDEX);
        y.refuses("pipe 0 0 1; pipe 0 1 0; pipe -1 0 1000; pipe 1 1 0", ARGUMENT).refuses("pipe 0 1 1", STATE);
    }

    private static void source() {
        Script x = flowing("Refused: source").refuses("source -1; source 10000", ARGUMENT);
        x.refuses("source 0; source 9999; source 20", STATE).run("end; source 7 = 20");
    }

    private static void need() {
        Script x = standing("Refused: need").refuses("need 2 -1; need 2 1000; need -1 1000; need -1 -1", INDEX);
        x.refuses("need 2 0", INDEX).refuses("need 0 -1; need 1 1000", ARGUMENT).run("need 0 3 = 3; need 1 4 = 4");
        Script y = flowing("Refused: need, FLOWING").refuses("need 2 1000; need -1 -1; need 2 0", INDEX);
        y.refuses("need 0 -1; need 1 1000", ARGUMENT).run("need 0 3 = 3; need 1 4 = 4");
    }

    private static void bid() {
        Script x = standing("Refused: bid");
        x.refuses("bid 2 100 0; bid 2 0 1000; bid -1 -1 -1; bid 2 -1 0; bid -1 5 -1; bid 2 4 1", INDEX);
        x.refuses("bid 0 -1 1; bid 0 4 1000; bid 0 4 -1; bid 0 100 1; bid 1 -1 1; bid 0 0 1000", ARGUMENT);
        x.refuses("bid 0 4 1; bid 0 0 0", STATE).run("bid 0 9 9 = 1").refuses("bid 0 -1 1; bid 0 4 1000", ARGUMENT);
        x.refuses("bid 2 4 1000", INDEX).refuses("bid 0 4 1; bid 0 0 0", STATE).run("bid 1 0 0 = 2");
        Script y = flowing("Refused: bid, FLOWING").refuses("bid 2 5 1; bid -1 5 1; bid 2 100 1000; bid -1 -1 1", INDEX);
        y.refuses("bid 0 100 1; bid 0 -1 1; bid 0 5 1000; bid 0 5 -1; bid 0 4 1000; bid 1 100 1", ARGUMENT);
        y.refuses("bid 0 5 1; bid 0 4 1; bid 0 99 9; bid 1 0 0; bid 1 5 5", STATE);
    }

    private static void bursts() {
        Script x = standing("Refused: burst").refuses("burst 3; burst -1", INDEX).run("burst 0; burst 1");
        x.refuses("burst 0; burst 1", STATE).refuses("burst 3; burst -1", INDEX);
        Script y = flowing("Refused: burst, FLOWING").refuses("burst 3; burst -1", INDEX).refuses("burst 2", STATE);
        y.run("burst 1; burst 0").refuses("burst 0; burst 1; burst 2", STATE).refuses("burst 3", INDEX);
        Script z = standing("Refused: repair").refuses("repair 3; repair -1", INDEX).refuses("repair 0; repair 2", STATE);
        z.run("burst 0").refuses("repair 3; repair -1", INDEX).refuses("repair 1; repair 2", STATE).run("repair 0");
        Script f = flowing("Refused: repair, FLOWING").refuses("repair 3; repair -1", INDEX);
        f.refuses("repair 0; repair 1; repair 2", STATE).run("end").refuses("repair 0; repair 1", STATE).run("repair 2");
    }

    private static void asked() {
        String index = "ofDistrict 2 0; ofDistrict -1 0; ofDistrict 0 -1; ofDistrict 0 9; ofDistrict 2 9; flowAnew 2;"
            + "flowAnew -1; place 2; place -1";
        String argument = "most -1; most 4; most 7; count -1; count 8";
        standing("Refused: what is asked").refuses(index, INDEX).refuses(argument, ARGUMENT);
        flowing("Refused: what is asked, FLOWING").refuses(index, INDEX).refuses(argument, ARGUMENT);
    }

    private static void others() {
        standing("Refused: end").refuses("end", STATE).run("bid 0 9 9").refuses("end", STATE);
        flowing("Refused: close").refuses("close", STATE).run("end; close").refuses("close", STATE);
    }

    /** Many refused calls, one after the other, leave a whole course of hours as it is without them. */
    private static void changesNothing() {
        String[] wrong = {
            "district -1 0", "district 0 1000", "pipe -2 0 1", "pipe 0 0 1", "pipe 0 1 0", "source -1", "need 9 0",
            "need 0 1000", "bid 9 0 0", "bid 0 100 0", "bid 0 99 1000", "burst 9", "repair 9", "ofDistrict 0 9",
            "flowAnew 9", "most -1", "place 9", "count 8",
        };
        String[] right = {
            "district 9 2", "district 9 3", "pipe -1 0 8", "pipe 0 1 5", "source 20", "bid 0 5 7", "bid 1 6 9", "close",
            "bid 1 6 8", "close", "close", "burst 1", "end", "repair 1", "bid 1 1 1", "close", "bid 0 1 1", "close", "close",
            "end",
        };
        PipewrightExchange with = new PipewrightExchange();
        PipewrightExchange without = new PipewrightExchange();
        for (String call : right) {
            for (String refused : wrong) {
                String answer = Script.answer(with, refused);
                Script.same(refused + " ahead of " + call, "" + answer.endsWith("Exception"), "true");
            }
            Script.same("with refused calls, " + call, Script.answer(with, call), Script.answer(without, call));
        }
        Script.same("with refused calls, all", Script.asks(with), Script.asks(without));
    }
}
