/** The sentences of the document's "Terms" that name a boundary case: a test for each, named by its words. */
final class TermsEdgesTest {
    private static final String INDEX = Script.INDEX;
    private static final String ARGUMENT = Script.ARGUMENT;
    private static final String STATE = Script.STATE;

    public static void main(String[] args) {
        asking();
        theNet();
        thePipes();
        theBursts();
        bids();
        prices();
        closing();
        silence();
        silenceAtTheEnd();
        biddingOver();
        order();
        flows();
        ahead();
        aheadOnOtherPipes();
        money();
        burstFlows();
        burstsAgain();
        payingBack();
        tanks();
        needs();
        nextHour();
        lastCall();
        Script.finish("TermsEdgesTest");
    }

    private static Script script(String sentence) {
        return new Script("Terms, \"" + sentence + "\"");
    }

    private static Script row(String sentence, int districts) {
        return script(sentence).row(districts);
    }

    private static void asking() {
        String[] calls = {
            "district 5 2", "district 9 3", "pipe -1 0 6", "pipe 0 1 2", "source 7", "bid 1 3 4", "close", "bid 0 3 9",
            "close", "close", "burst 1", "end", "repair 1",
        };
        PipewrightExchange asked = new PipewrightExchange();
        PipewrightExchange unasked = new PipewrightExchange();
        for (String call : calls) {
            Script.asks(asked);
            String name = "Terms, \"are asked, which changes nothing\": " + call;
            Script.same(name, Script.answer(asked, call), Script.answer(unasked, call));
        }
        for (String wrong : new String[] {"ofDistrict 2 0", "ofDistrict 0 9", "flowAnew -1", "place 2", "count 8"}) {
            Script.answer(asked, wrong);
        }
        Script.same("Terms, asked and unasked", Script.asks(asked), Script.asks(unasked));
    }

    private static void theNet() {
        Script x = script("Hours are counted from 0, at most 1000").run("hour = 0");
        for (int h = 1; h <= 255; h++) {
            x.run("close = true; end = 0");
        }
        x.run("hour = 255");
        Script y = script("Districts are numbered from 0, at most 8");
        for (int d = 0; d < 8; d++) {
            y.refuses("place " + d, INDEX).run("district 1 1 = " + d + "; place " + d + " = -1");
        }
        y.refuses("district 1 1", STATE).run("count 0 = 8").refuses("place 8; need 8 1; flowAnew 8", INDEX);
        Script z = script("each has a tank, which holds some units, none being in it at first");
        z.run("district 9999 0; district 9999 999; ofDistrict 0 0 = 0; ofDistrict 1 0 = 0; count 5 = 0");
        z.run("close; end = 1; ofDistrict 1 6 = 0; ofDistrict 1 7 = 999; ofDistrict 0 7 = 0");
        z.run("close; district 5 3; ofDistrict 2 0 = 0; end = 2; ofDistrict 2 6 = 0; ofDistrict 2 7 = 3");
        Script s = script("The source gives some units in an hour, 0 at first").run("district 99 0; pipe -1 0 9");
        s.run("most 1 = 0; bid 0 1 9; close; close; ofDistrict 0 3 = 0; end; source 0 = 0; most 1 = 0; source 4 = 0");
        s.run("most 1 = 4; bid 0 1 9; close; close; ofDistrict 0 3 = 4; end; bid 0 1 9; close; close; count 4 = 4");
        s.run("end; source 9; bid 0 1 9; close; close; count 4 = 9; end; source 10; bid 0 1 99; close; close");
        s.run("count 4 = 9; end; source 8; bid 0 1 99; close; close; count 4 = 8");
    }

    private static void thePipes() {
        Script x = script("Pipes are numbered from 0, at most 24").run("district 1 1; district 1 1; source 99");
        for (int p = 0; p < 24; p++) {
            x.refuses("burst " + p, INDEX).run("pipe -1 " + p % 2 + " 1 = " + p + "; burst " + p + " = 0");
        }
        x.refuses("pipe -1 0 1; pipe 0 1 1", STATE).refuses("burst 24; repair 24", INDEX);
        x.run("repair 23; most 2 = 1; most 1 = 0; repair 0; most 1 = 1; count 1 = 24; count 2 = 22");
        Script y = script("from the source, or a district, to another district, one way");
        y.run("district 9 0; district 9 0; source 9; pipe 1 0 5; pipe -1 0 4; most 2 = 0; most 1 = 4; most 3 = 4");
        y.run("pipe 0 1 3; most 2 = 3; most 3 = 4; bid 1 1 9; close; close; ofDistrict 1 3 = 3; flowAnew 1 = 3");
        y.refuses("pipe 0 0 1; pipe 1 1 1", ARGUMENT).refuses("pipe -1 -1 1; pipe 0 -1 1", INDEX);
        Script z = script("with a limit of units in an hour").run("district 99 0; source 99; pipe -1 0 5");
        z.run("bid 0 1 6; close; close; count 4 = 5; end; bid 0 1 5; close; close; count 4 = 5; end; bid 0 1 4");
        z.run("close; close; count 4 = 4; end; pipe -1 0 1; bid 0 1 9; close; close; count 4 = 6; most 1 = 6");
        z.run("ofDistrict 0 0 = 14; end; ofDistrict 0 0 = 20");
    }

    private static void theBursts() {
        Script x = script("A pipe that has burst carries nothing, until it is repaired");
        x.run("district 99 0; source 99; pipe -1 0 5; pipe -1 0 2; burst 0; most 1 = 2; bid 0 1 9; close; close");
        x.run("ofDistrict 0 3 = 2; most 1 = 2; burst 1 = 2; most 1 = 0; end; most 1 = 0; bid 0 1 9; close; close");
        x.run("count 4 = 0; end; repair 1; most 1 = 2; repair 0; most 1 = 7; bid 0 1 9; close; close; count 4 = 7");
        x.run("end; bid 0 1 9; close; close; count 4 = 7");
        Script y = script("A pipe that has burst: in the round of now").run("district 99 0; source 99; pipe -1 0 5");
        y.run("bid 0 1 9; burst 0 = 0; close; repair 0; close; count 4 = 5; end; bid 0 1 9; close; burst 0 = 0; close");
        y.run("count 4 = 0; ofDistrict 0 4 = 5; ofDistrict 0 5 = 0");
    }

    private static void bids() {
        Script x = row("An hour begins with BIDDING, by rounds, numbered from 0", 1).run("round = 0; bid 0 1 1 = 1");
        x.run("round = 0; close = false; round = 1; close = true; round = -1; end; round = 0; bid 0 1 1 = 1");
        x.run("close = false; round = 1");
        Script y = row("each district may tell a bid, as often as it likes", 2);
        for (int b = 0; b < 400; b++) {
            y.run("bid 0 " + b % 100 + " " + b + " = 1");
        }
        y.run("bid 1 7 7 = 2; bid 0 6 8 = 2; count 3 = 0; close; ofDistrict 0 1 = 6; ofDistrict 0 2 = 8; place 0 = 1");
        Script z = row("the latest counting", 2).run("bid 0 9 8; bid 0 2 3; bid 1 3 1; close; ofDistrict 0 1 = 2");
        z.run("ofDistrict 0 2 = 3; place 0 = 1; bid 0 9 9; bid 0 2 0; close; ofDistrict 0 1 = 2; ofDistrict 0 2 = 0");
        z.run("close; ofDistrict 0 3 = 0; ofDistrict 0 4 = 0");
        Script t = row("the latest counting, as told then", 3).run("bid 0 5 1; bid 1 5 1; bid 2 5 1; bid 0 5 1; close");
        t.run("place 1 = 0; place 2 = 1; place 0 = 2; bid 1 5 1; bid 2 6 1; bid 0 6 1; bid 2 6 1; close");
        t.run("place 0 = 0; place 2 = 1; place 1 = 2");
    }

    private static void prices() {
        Script x = row("its price must be at least that of its bid that stands", 2);
        x.run("bid 0 5 5; bid 0 4 5; bid 0 5 5; close").refuses("bid 0 4 5; bid 0 0 999; bid 0 4 0", STATE);
        x.run("bid 1 0 1 = 1; bid 0 5 0 = 2; bid 0 99 5 = 2; bid 0 5 9 = 2; bid 0 6 9 = 2");
        x.refuses("bid 0 4 5", STATE).run("close; bid 1 0 2 = 1").refuses("bid 0 5 9", STATE);
        x.run("bid 0 99 1 = 2; close").refuses("bid 0 98 1", STATE).run("bid 1 1 1; close; bid 0 99 2 = 1; close");
        x.run("ofDistrict 0 1 = 99; ofDistrict 0 2 = 2");
        Script y = row("at least that of its bid that stands, also of a silent district", 2).run("bid 0 5 5; close");
        y.run("bid 1 1 1; close").refuses("bid 0 4 9", STATE).run("bid 1 1 1; close; ofDistrict 0 1 = -1");
        y.run("bid 0 0 9 = 1; close; bid 0 0 9 = 1; close = true; end; bid 0 0 1 = 1");
    }

    private static void closing() {
        Script x = row("When a round is closed, bids that were told in it stand", 2).run("bid 0 5 5; bid 1 0 0");
        x.run("count 3 = 0; place 0 = -1; place 1 = -1; ofDistrict 0 1 = -1; ofDistrict 0 2 = -1; close; count 3 = 2");
        x.run("place 0 = 0; place 1 = 1; ofDistrict 0 1 = 5; ofDistrict 0 2 = 5; ofDistrict 1 1 = 0; ofDistrict 1 2 = 0");
        Script y = row("in place of those before", 2).run("bid 0 5 5; bid 1 5 3; close; bid 0 6 2; bid 1 5 9");
        y.run("ofDistrict 0 1 = 5; ofDistrict 0 2 = 5; ofDistrict 1 2 = 3; close; ofDistrict 0 1 = 6; count 3 = 2");
        y.run("ofDistrict 0 2 = 2; ofDistrict 1 1 = 5; ofDistrict 1 2 = 9; close; ofDistrict 0 3 = 2; ofDistrict 0 4 = 12");
    }

    private static void silence() {
        Script x = row("A district without a bid in it is silent; its bid stands", 2).run("bid 0 5 5; close; bid 1 1 1");
        x.run("close; ofDistrict 0 1 = 5; ofDistrict 0 2 = 5; place 0 = 0; place 1 = 1; count 3 = 2");
        Script y = row("but if it was silent in the round before, too, that is gone", 2).run("bid 0 5 5; close");
        y.run("bid 1 1 1; close; count 3 = 2; bid 1 1 1; close; count 3 = 1; place 0 = -1; ofDistrict 0 1 = -1");
        y.run("ofDistrict 0 2 = -1; bid 0 0 1; close; place 0 = 1; bid 1 1 1; close = true; place 0 = 1");
        Script z = row("silent, not in two rounds one after the other", 2).run("bid 0 5 5; close; bid 1 1 1; close");
        z.run("bid 0 5 5; close; bid 1 1 1; close; count 3 = 2; ofDistrict 0 2 = 5; close = true; place 0 = -1");
        Script first = row("silent ahead of its first bid", 2).run("bid 1 1 1; close; bid 1 1 1; close; bid 0 5 5; close");
        first.run("bid 1 1 1; close; place 0 = 0; close = true; place 0 = -1; place 1 = 0");
        Script none = row("silent, which a bid of no units or for no price is not", 2).run("bid 0 0 5; close; bid 0 0 0");
        none.run("close; bid 0 0 0; close; bid 1 1 1; close; place 0 = 1; count 3 = 2");
        Script refused = row("silent, which a refused bid is, too", 2).run("bid 0 5 5; close; bid 1 1 1");
        refused.refuses("bid 0 4 5", STATE).run("close; bid 1 1 1").refuses("bid 0 5 1000", ARGUMENT);
        refused.run("close; count 3 = 1; ofDistrict 0 1 = -1");
    }

    private static void silenceAtTheEnd() {
        Script x = row("is gone, also with the round by which BIDDING is over", 3).run("bid 0 5 5; close; bid 1 4 4");
        x.run("close = false; count 3 = 2; close = true; count 3 = 1; place 0 = -1; place 1 = 0; ofDistrict 0 1 = -1");
        x.run("ofDistrict 0 2 = -1; ofDistrict 0 3 = 0; ofDistrict 0 4 = 0; ofDistrict 1 3 = 4; count 4 = 4");
        Script y = row("is gone, also with the round 4, in which others told bids", 3);
        y.run("bid 2 1 1; close; bid 2 1 1; close; bid 0 5 5; bid 1 4 4; close; bid 1 4 4; bid 2 1 1; close");
        y.run("bid 2 1 2; count 3 = 3; close = true; count 3 = 2; place 0 = -1; place 1 = 0; ofDistrict 1 3 = 4");
        y.run("ofDistrict 2 3 = 2; ofDistrict 0 3 = 0; flowAnew 0 = 0");
        Script z = row("is gone, but not by the silence of an hour that is over", 2).run("close; end; bid 0 5 5; close");
        z.run("close = true; ofDistrict 0 3 = 5; end; bid 1 1 1; close; close; end; bid 0 5 5; close; bid 1 1 1; close");
        z.run("count 3 = 2; close = true; place 0 = -1");
    }

    private static void biddingOver() {
        script("BIDDING is over with a round in which nobody told a bid: no districts").run("close = true; round = -1");
        for (int rounds = 0; rounds <= 4; rounds++) {
            Script x = row("BIDDING is over with a round in which nobody told a bid: " + rounds, 1);
            for (int r = 0; r < rounds; r++) {
                x.run("bid 0 1 0; close = false; round = " + (r + 1));
            }
            x.run("close = true; round = -1").refuses("close; bid 0 9 9", STATE);
        }
        Script y = row("or with the round 4; then all is FLOWING", 2);
        for (int r = 0; r < 4; r++) {
            y.run("round = " + r + "; bid " + r % 2 + " 1 1; close = false").refuses("end", STATE);
        }
        y.run("round = 4; bid 0 9 9; close = true; round = -1; ofDistrict 0 3 = 9").refuses("close", STATE);
        y.run("end = 0; bid 1 1 1; close = false; round = 1");
    }

    private static void order() {
        Script x = row("Bids that stand are gone through by falling prices", 4).run("source 5; bid 0 0 9; bid 1 98 2");
        x.run("bid 2 99 2; bid 3 1 9; close; place 2 = 0; place 1 = 1; place 3 = 2; place 0 = 3; close; count 4 = 5");
        x.run("ofDistrict 2 3 = 2; ofDistrict 1 3 = 2; ofDistrict 3 3 = 1; ofDistrict 0 3 = 0");
        Script y = row("of the same by the order in which they were told, of the same round", 4).run("source 5");
        y.run("bid 3 0 2; bid 1 0 2; bid 0 0 2; bid 2 0 2; close; place 3 = 0; place 1 = 1; place 0 = 2; place 2 = 3");
        y.run("close; ofDistrict 3 3 = 2; ofDistrict 1 3 = 2; ofDistrict 0 3 = 1; ofDistrict 2 3 = 0");
        Script z = row("or of an earlier one, the earlier first", 3).run("source 5; bid 2 7 4; bid 1 3 4; close; bid 1 7 4");
        z.run("bid 0 7 4; close; place 2 = 0; place 1 = 1; place 0 = 2; bid 2 7 4; close; place 1 = 0; place 0 = 1");
        z.run("place 2 = 2; close = true; place 1 = -1; place 0 = -1; place 2 = 0");
        Script all = row("of the same by the order in which they were told: 8 districts", 8);
        for (int d = 7; d >= 0; d--) {
            all.run("bid " + d + " 50 1 = " + (8 - d));
        }
        all.run("close");
        for (int d = 0; d < 8; d++) {
            all.run("place " + d + " = " + (7 - d));
        }
    }

    private static void flows() {
        Script x = row("as much as can flow to it, at most its units", 1).run("bid 0 1 0; close; close; count 4 = 0; end");
        x.run("bid 0 1 1; close; close; count 4 = 1; end; bid 0 1 9; close; close; count 4 = 9; end; bid 0 1 10; close");
        x.run("close; count 4 = 9; end; bid 0 1 999; close; close; count 4 = 9");
        Script y = script("from the source, within what that gives").run("district 99 0; district 99 0; pipe -1 0 9");
        y.run("pipe -1 1 9; source 8; bid 0 2 8; bid 1 1 9; close; close; ofDistrict 0 3 = 8; ofDistrict 1 3 = 0; end");
        y.run("source 9; bid 0 2 8; bid 1 1 9; close; close; ofDistrict 1 3 = 1; end; source 17; bid 0 2 8; bid 1 1 9");
        y.run("close; close; ofDistrict 1 3 = 9; end; source 18; bid 0 2 8; bid 1 1 9; close; close; count 4 = 17; end");
        y.run("source 0; bid 0 2 8; close; close; count 4 = 0");
        Script z = script("in each of which as much comes in as goes on or is got there");
        z.run("district 99 0; district 99 0; district 99 0; source 99; pipe -1 0 6; pipe 0 1 9; pipe 1 2 4; most 2 = 6");
        z.run("most 4 = 4; most 7 = 6; bid 2 9 5; bid 1 8 1; bid 0 7 9; close; close; ofDistrict 2 3 = 4");
        z.run("ofDistrict 1 3 = 1; ofDistrict 0 3 = 1; end; bid 0 9 6; bid 1 8 9; bid 2 7 9; close; close; count 4 = 6");
        z.run("ofDistrict 0 3 = 6; ofDistrict 1 3 = 0; ofDistrict 2 3 = 0; ofDistrict 0 0 = 1; ofDistrict 2 0 = 4");
        Script chain = script("through districts: all 8 of them").run("source 9");
        for (int d = 0; d < 8; d++) {
            chain.run("district 99 0; pipe " + (d - 1) + " " + d + " " + (17 - d) + "; most " + (1 << d) + " = 9");
        }
        chain.run("source 99; most 128 = 10; bid 7 1 99; close; close; ofDistrict 7 3 = 10; burst 3 = 10; count 4 = 0");
    }

    private static void ahead() {
        Script x = script("so that those ahead get as much as they do").run("district 99 0; district 99 0; source 99");
        x.run("district 99 0; pipe -1 0 5; pipe 0 1 9; pipe 0 2 9; pipe -1 2 3; bid 2 9 5; bid 1 8 9; bid 0 7 9; close");
        x.run("close; ofDistrict 2 3 = 5; ofDistrict 1 3 = 3; ofDistrict 0 3 = 0; end; bid 1 9 9; bid 2 8 9; close");
        x.run("close; ofDistrict 1 3 = 5; ofDistrict 2 3 = 3; end; bid 0 9 2; bid 1 9 2; bid 2 9 9; close; close");
        x.run("ofDistrict 0 3 = 2; ofDistrict 1 3 = 2; ofDistrict 2 3 = 4; flowAnew 2 = 4");
    }

    /** Whichever way the first bid's water takes, it has to take another for the second one. */
    private static void aheadOnOtherPipes() {
        Script x = script("as much as can flow to it, so that those ahead get as much: over other pipes").run("source 99");
        x.run("district 99 0; district 99 0; district 99 0; district 99 0; district 99 0; pipe -1 1 5; pipe -1 2 5");
        x.run("pipe 1 0 5; pipe 2 0 5; pipe 1 3 5; pipe 2 4 5; bid 0 9 5; bid 3 8 9; close; close; ofDistrict 0 3 = 5");
        x.run("ofDistrict 3 3 = 5; flowAnew 3 = 5; end; bid 0 9 5; bid 4 8 9; close; close; ofDistrict 0 3 = 5");
        x.run("ofDistrict 4 3 = 5; flowAnew 4 = 5; end; bid 0 9 6; bid 3 8 9; bid 4 7 9; close; close; count 4 = 10");
        x.run("ofDistrict 0 3 = 6; ofDistrict 3 3 = 4; ofDistrict 4 3 = 0; burst 2 = 1; ofDistrict 0 3 = 5; count 4 = 9");
        x.run("ofDistrict 3 3 = 4; ofDistrict 4 3 = 0");
        Script y = script("as much as can flow to it: over pipes one way and the other").run("source 99; district 99 0");
        y.run("district 99 0; district 99 0; pipe -1 0 2; pipe 0 1 5; pipe 1 0 3; pipe -1 2 9; pipe 2 1 9; bid 1 9 2");
        y.run("bid 0 8 9; close; close; ofDistrict 1 3 = 2; ofDistrict 0 3 = 5; flowAnew 0 = 5; end; bid 1 9 3; bid 0 8 9");
        y.run("close; close; ofDistrict 1 3 = 3; ofDistrict 0 3 = 5");
    }

    private static void money() {
        Script x = row("It pays its price for each unit", 3).run("source 14; bid 0 99 8; bid 1 5 9; bid 2 0 9; close");
        x.run("count 6 = 0; close; ofDistrict 0 4 = 792; ofDistrict 1 4 = 30; ofDistrict 2 4 = 0; count 6 = 822; end");
        x.run("bid 2 0 9; close; close; ofDistrict 2 3 = 9; ofDistrict 2 4 = 0; ofDistrict 0 4 = 792; count 6 = 822; end");
        x.run("bid 0 1 1; close; close; ofDistrict 0 4 = 793");
        Script most = script("It pays its price for each unit: all that can be").run("source 9999");
        for (int d = 0; d < 8; d++) {
            most.run("district 999 0; pipe -1 " + d + " 999; bid " + d + " 99 999");
        }
        most.run("close; close; count 4 = 7992; count 6 = 791208; ofDistrict 7 4 = 98901; burst 7 = 999");
        most.run("ofDistrict 7 5 = 108791; count 6 = 682417; count 4 = 6993; end; count 5 = 6993; count 7 = 6993");
    }

    private static void burstFlows() {
        Script x = row("When a pipe bursts in an hour that is FLOWING, flows are found anew", 2).run("pipe 1 0 3");
        x.run("bid 0 9 9; bid 1 8 6; close; close; count 4 = 15; burst 0 = 6; ofDistrict 0 3 = 3; ofDistrict 1 3 = 6");
        x.run("count 4 = 9; flowAnew 0 = 3; flowAnew 1 = 6; most 1 = 3; burst 1 = 9; count 4 = 0; burst 2 = 0");
        Script y = script("found anew, in the same order").run("district 99 0; district 99 0; district 99 0; source 6");
        y.run("pipe -1 0 5; pipe -1 0 1; pipe 0 1 9; pipe 0 2 9; bid 2 5 2; bid 1 5 2; bid 0 4 2; close; close");
        y.run("burst 0 = 5; ofDistrict 2 3 = 1; ofDistrict 1 3 = 0; ofDistrict 0 3 = 0; place 2 = 0; place 1 = 1");
        y.run("place 0 = 2; burst 1 = 1; count 4 = 0; count 3 = 3");
        Script z = row("nobody getting more than before by that", 2).run("source 9; bid 0 9 9; bid 1 8 9; close; close");
        z.run("burst 0 = 9; ofDistrict 0 3 = 0; ofDistrict 1 3 = 0; flowAnew 1 = 0; most 2 = 9; count 4 = 0");
        Script before = row("When a pipe bursts in an hour that is not FLOWING", 1).run("bid 0 9 9; close; burst 0 = 0");
        before.run("ofDistrict 0 5 = 0; close; ofDistrict 0 3 = 0; ofDistrict 0 4 = 0; ofDistrict 0 5 = 0; end");
        before.run("repair 0; bid 0 9 9; close; close; end; burst 0 = 0; ofDistrict 0 5 = 0; ofDistrict 0 4 = 81");
    }

    /** By the second burst the first bid gets less; what the second one could have then it lost by the first burst. */
    private static void burstsAgain() {
        Script x = script("nobody getting more than before by that: by the second burst");
        x.run("district 99 0; district 99 0; district 99 0; source 99; pipe -1 0 3; pipe -1 2 5; pipe 2 0 9; pipe 2 1 9");
        x.run("bid 0 9 3; bid 1 8 9; close; close; ofDistrict 0 3 = 3; ofDistrict 1 3 = 5; burst 0 = 3");
        x.run("ofDistrict 0 3 = 3; ofDistrict 1 3 = 2; flowAnew 1 = 2; ofDistrict 1 5 = 26; burst 2 = 3");
        x.run("ofDistrict 0 3 = 0; ofDistrict 1 3 = 2; flowAnew 0 = 0; flowAnew 1 = 2; ofDistrict 0 5 = 29; end");
        x.run("ofDistrict 1 5 = 26; count 7 = 2; bid 1 8 9; close; close; ofDistrict 1 3 = 5; flowAnew 1 = 5");
    }

    private static void payingBack() {
        int[][] unitsAndMoney = {{1, 1}, {9, 9}, {10, 11}, {11, 12}, {19, 20}, {20, 22}, {99, 108}, {100, 110}};
        for (int[] due : unitsAndMoney) {
            Script x = script("paid back, and a tenth of that money more, rounded down: " + due[0]);
            x.run("district 0 0; source 999; pipe -1 0 999; bid 0 1 " + due[0] + "; close; close; burst 0 = " + due[0]);
            x.run("ofDistrict 0 5 = " + due[1] + "; ofDistrict 0 4 = " + due[0] + "; count 6 = " + (due[0] - due[1]));
        }
        Script one = row("who gets less is paid back the price times the units less", 3).run("pipe -1 0 2");
        one.run("bid 0 7 4; bid 1 7 4; bid 2 0 9; close; close; burst 0 = 2; ofDistrict 0 5 = 15; ofDistrict 1 5 = 0");
        one.run("burst 2 = 9; ofDistrict 2 5 = 0; burst 3 = 2; ofDistrict 0 5 = 30; ofDistrict 0 4 = 28; count 6 = 26");
        Script each = script("a tenth, of each district for itself").run("district 9 0; district 9 0; source 9");
        each.run("pipe -1 0 9; pipe 0 1 9; bid 0 1 4; bid 1 1 5; close; close; burst 0 = 9; ofDistrict 0 5 = 4");
        each.run("ofDistrict 1 5 = 5; count 6 = 0");
        Script twice = script("a tenth, of each burst for itself").run("district 9 0; source 9; pipe -1 0 5; pipe -1 0 4");
        twice.run("bid 0 1 9; close; close; burst 0 = 5; ofDistrict 0 5 = 5; burst 1 = 4; ofDistrict 0 5 = 9; end");
        twice.run("repair 0; repair 1; bid 0 2 9; close; close; burst 0 = 5; ofDistrict 0 5 = 20; count 6 = 7");
    }

    private static void tanks() {
        String got = "what was got comes into the tanks, as far as there is room, the rest is lost: ";
        int[][] unitsInLost = {{0, 0, 0}, {1, 1, 0}, {9, 9, 0}, {10, 10, 0}, {11, 10, 1}, {999, 10, 989}};
        for (int[] due : unitsInLost) {
            Script x = script(got + due[0]).run("district 10 0; source 9999; pipe -1 0 999; bid 0 1 " + due[0]);
            x.run("close; close; ofDistrict 0 0 = 0; ofDistrict 0 8 = 0; end = 0; ofDistrict 0 0 = " + due[1]);
            x.run("ofDistrict 0 8 = " + due[2] + "; count 7 = " + due[0] + "; count 5 = " + due[1]);
        }
        Script half = script(got + "4 in it").run("district 10 0; source 99; pipe -1 0 99; bid 0 1 4; close; close; end");
        half.run("bid 0 1 6; close; close; end; ofDistrict 0 0 = 10; ofDistrict 0 8 = 0; bid 0 1 1; close; close; end");
        half.run("ofDistrict 0 0 = 10; ofDistrict 0 8 = 1; need 0 3; bid 0 1 2; close; close; end = 0");
        half.run("ofDistrict 0 8 = 3; ofDistrict 0 0 = 7; bid 0 1 4; close; close; end; ofDistrict 0 8 = 4");
        half.run("ofDistrict 0 0 = 7; ofDistrict 0 6 = 6");
        Script none = script(got + "no tank").run("district 0 2; source 9; pipe -1 0 9; bid 0 3 9; close; close; end = 1");
        none.run("ofDistrict 0 0 = 0; ofDistrict 0 8 = 9; ofDistrict 0 6 = 0; ofDistrict 0 7 = 2; ofDistrict 0 4 = 27");
    }

    private static void needs() {
        String takes = "each district takes its need from its tank, as far as there is water: ";
        int[][] needTookLack = {{0, 0, 0}, {1, 1, 0}, {4, 4, 0}, {5, 5, 0}, {6, 5, 1}, {999, 5, 994}};
        for (int[] due : needTookLack) {
            Script x = script(takes + due[0]).run("district 9 " + due[0] + "; source 5; pipe -1 0 9; bid 0 1 9; close");
            x.run("close; ofDistrict 0 6 = 0; ofDistrict 0 7 = 0; end = " + (due[2] > 0 ? 1 : 0));
            x.run("ofDistrict 0 6 = " + due[1] + "; ofDistrict 0 7 = " + due[2] + "; ofDistrict 0 0 = " + (5 - due[1]));
        }
        Script later = script(takes + "later hours").run("district 99 3; district 99 1; source 8; pipe -1 0 8; bid 0 1 8");
        later.run("close; close; end = 1; ofDistrict 0 0 = 5; close; end = 1; ofDistrict 0 0 = 2; close; end = 2");
        later.run("ofDistrict 0 0 = 0; ofDistrict 0 6 = 8; ofDistrict 0 7 = 1; ofDistrict 1 7 = 3; need 1 0; close");
        later.run("end = 1; ofDistrict 0 7 = 4; ofDistrict 1 7 = 3; ofDistrict 1 6 = 0; need 0 0; close; end = 0");
    }

    private static void nextHour() {
        Script x = row("Then the next hour begins, without bids", 2).run("bid 0 9 9; bid 1 8 9; close; close; end");
        x.run("hour = 1; round = 0; count 3 = 0; count 4 = 0; place 0 = -1; ofDistrict 0 1 = -1; ofDistrict 0 2 = -1");
        x.run("ofDistrict 0 3 = 0; flowAnew 0 = 0; flowAnew 1 = 0; bid 0 0 1 = 1; close = false; count 3 = 1; close");
        x.run("count 4 = 1; end; close = true; count 4 = 0; count 3 = 0; ofDistrict 0 3 = 0; end = 0; hour = 3");
    }

    private static void lastCall() {
        Script x = row("An object is used for at most 512 calls", 2).run("bid 1 5 3");
        for (int b = 0; b < 500; b++) {
            x.run("bid 0 5 " + b + " = 2");
        }
        x.run("close = false; close = true; ofDistrict 0 3 = 9; ofDistrict 1 3 = 3; place 0 = 1; count 4 = 12");
    }
}
