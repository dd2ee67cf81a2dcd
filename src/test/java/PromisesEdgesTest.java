/** The promises' own boundary cases: what is taken, least and greatest, what is returned, nothing there and all. */
final class PromisesEdgesTest {
    private static final String INDEX = Script.INDEX;
    private static final String ARGUMENT = Script.ARGUMENT;
    private static final String STATE = Script.STATE;
    private static final int LEAST = Integer.MIN_VALUE;
    private static final int GREATEST = Integer.MAX_VALUE;

    public static void main(String[] args) {
        newObject();
        districtTank();
        districtNeed();
        districtsAll();
        pipeEnds();
        pipeLimit();
        pipesAll();
        sourceUnits();
        need();
        bidRanges();
        bidReturns();
        bidStates();
        close();
        burst();
        repair();
        end();
        hourAndRound();
        ofDistrict();
        flowAnew();
        most();
        place();
        countFew();
        countAll();
        Script.finish("PromisesEdgesTest");
    }

    private static Script row(String name, int districts) {
        return new Script(name).row(districts);
    }

    private static void newObject() {
        Script x = new Script("Promise 1, no districts, no pipes; the hour 0");
        x.run("hour = 0; round = 0; count 0 = 0; count 1 = 0; count 2 = 0; count 3 = 0; count 4 = 0; count 5 = 0");
        x.run("count 6 = 0; count 7 = 0; most 0 = 0").refuses("most 1", ARGUMENT);
        x.refuses("need 0 0; bid 0 0 0; ofDistrict 0 0; flowAnew 0; place 0; burst 0; repair 0; pipe -1 0 1", INDEX);
        x.refuses("end", STATE).run("source 1 = 0; district 0 0 = 0; pipe -1 0 1 = 0; close = true; end = 0");
    }

    /** At most 999 units come to a tank in an hour, so the greatest is filled in eleven hours. */
    private static void districtTank() {
        Script x = new Script("Promise 2, tank: 0 to 9999").refuses("district -1 0; district 10000 0", ARGUMENT);
        x.refuses("district " + LEAST + " 0; district " + GREATEST + " 0", ARGUMENT);
        x.run("source 9999; district 0 0 = 0; district 1 0 = 1; district 9998 0 = 2; district 9999 0 = 3");
        x.run("pipe -1 0 999; pipe -1 1 999; pipe -1 2 999; pipe -1 3 999");
        for (int h = 0; h < 11; h++) {
            x.run("bid 0 1 1; bid 1 1 1; bid 2 1 999; bid 3 1 " + (h < 10 ? 999 : 9) + "; close; close; end = 0");
        }
        x.run("ofDistrict 0 0 = 0; ofDistrict 0 8 = 11; ofDistrict 1 0 = 1; ofDistrict 1 8 = 10; ofDistrict 2 0 = 9998");
        x.run("ofDistrict 2 8 = 991; ofDistrict 3 0 = 9999; ofDistrict 3 8 = 0; count 5 = 19998; bid 3 1 1; close");
        x.run("close; end; ofDistrict 3 0 = 9999; ofDistrict 3 8 = 1");
    }

    private static void districtNeed() {
        Script x = new Script("Promise 2, need: 0 to 999").refuses("district 0 -1; district 0 1000", ARGUMENT);
        x.refuses("district 0 " + LEAST + "; district 0 " + GREATEST, ARGUMENT);
        x.refuses("district -1 -1; district 10000 1000", ARGUMENT);
        x.run("source 9999; district 999 0 = 0; district 999 1 = 1; district 999 998 = 2; district 999 999 = 3");
        for (int d = 0; d < 4; d++) {
            x.run("pipe -1 " + d + " 999; bid " + d + " 1 999");
        }
        x.run("close; close; end = 0; ofDistrict 0 0 = 999; ofDistrict 1 0 = 998; ofDistrict 2 0 = 1; ofDistrict 3 0 = 0");
        x.run("ofDistrict 0 6 = 0; ofDistrict 1 6 = 1; ofDistrict 2 6 = 998; ofDistrict 3 6 = 999; close; end = 2");
        x.run("ofDistrict 0 7 = 0; ofDistrict 1 7 = 0; ofDistrict 2 7 = 997; ofDistrict 3 7 = 999");
    }

    private static void districtsAll() {
        Script x = new Script("Promise 2, returns its number; refused if there are 8");
        for (int d = 0; d < 8; d++) {
            x.run("district " + d + " " + d + " = " + d + "; count 0 = " + (d + 1) + "; need " + d + " 9 = " + d);
        }
        x.refuses("district 0 0; district 9999 999", STATE).run("close").refuses("district 0 0", STATE);
        x.run("end = 8").refuses("district 0 0", STATE).run("count 0 = 8");
        Script y = row("Promise 2, told while all is FLOWING", 1).run("bid 0 1 9; close; close; district 5 4 = 1");
        y.run("place 1 = -1; ofDistrict 1 3 = 0; flowAnew 1 = 0; most 2 = 0; most 3 = 9; count 4 = 9; burst 0 = 9");
        y.run("end = 1; ofDistrict 1 7 = 4; bid 1 2 3 = 1; pipe -1 1 3; close; close; ofDistrict 1 3 = 3");
    }

    private static void pipeEnds() {
        Script x = new Script("Promise 3, from: a district, or NONE; to: another district").run("source 99");
        x.refuses("pipe -1 0 1; pipe 0 1 1", INDEX).run("district 9 0").refuses("pipe 0 1 1; pipe 1 0 1", INDEX);
        x.run("pipe -1 0 1 = 0; district 9 0; district 9 0").refuses("pipe -2 0 1; pipe 3 0 1; pipe 0 3 1", INDEX);
        x.refuses("pipe 0 -1 1; pipe 0 -2 1; pipe -1 -1 1; pipe -1 3 1; pipe 3 3 1; pipe 3 -2 1", INDEX);
        x.refuses("pipe " + LEAST + " 0 1; pipe " + GREATEST + " 0 1; pipe 0 " + LEAST + " 1", INDEX);
        x.refuses("pipe 0 " + GREATEST + " 1", INDEX).refuses("pipe 0 0 1; pipe 1 1 999; pipe 2 2 5", ARGUMENT);
        x.run("pipe -1 2 1 = 1; pipe 2 0 9 = 2; pipe 0 2 9 = 3; pipe 2 0 9 = 4; pipe 1 2 9 = 5; pipe 0 1 9 = 6");
        x.run("most 1 = 2; most 2 = 2; most 4 = 2; count 1 = 7");
    }

    private static void pipeLimit() {
        Script x = new Script("Promise 3, limit: 1 to 999").run("district 99 0; district 99 0; source 9999");
        x.refuses("pipe -1 0 0; pipe -1 0 -1; pipe -1 0 1000; pipe 0 1 0; pipe 0 1 1000", ARGUMENT);
        x.refuses("pipe -1 0 " + LEAST + "; pipe -1 0 " + GREATEST + "; pipe 0 0 0", ARGUMENT);
        x.run("pipe -1 0 1 = 0; most 1 = 1; pipe -1 0 2 = 1; most 1 = 3; pipe -1 0 998 = 2; most 1 = 1001; burst 2");
        x.run("pipe -1 0 999 = 3; most 1 = 1002; burst 0; burst 1; most 1 = 999; bid 0 1 999; close; close; count 4 = 999");
    }

    private static void pipesAll() {
        Script x = new Script("Promise 3, returns its number; refused if there are 24").run("district 99 0; source 9999");
        for (int p = 0; p < 24; p++) {
            x.run("pipe -1 0 999 = " + p + "; count 1 = " + (p + 1));
        }
        x.refuses("pipe -1 0 1; pipe -1 0 999", STATE).run("most 1 = 9999; count 1 = 24; burst 23; most 1 = 9999");
        x.refuses("pipe -1 0 1", STATE).run("close").refuses("pipe -1 0 1", STATE);
        Script y = row("Promise 3, refused if all is FLOWING", 2).run("pipe 0 1 9 = 2; bid 0 1 1; close; pipe 0 1 9 = 3");
        y.run("close").refuses("pipe 0 1 9; pipe -1 0 1", STATE).run("end; pipe 0 1 9 = 4");
    }

    private static void sourceUnits() {
        Script x = new Script("Promise 4, units: 0 to 9999; returns that before").run("source 0 = 0; source 9999 = 0");
        x.refuses("source -1; source 10000; source " + LEAST + "; source " + GREATEST, ARGUMENT);
        x.run("source 1 = 9999; source 9998 = 1; source 0 = 9998; source 0 = 0");
        for (int d = 0; d < 8; d++) {
            x.run("district 0 0; pipe -1 " + d + " 999; pipe -1 " + d + " 999; bid " + d + " 1 999");
        }
        x.run("most 255 = 0; source 1; most 255 = 1; source 9998; most 255 = 9998; source 9999; most 255 = 9999");
        x.run("most 31 = 9990; most 63 = 9999; close; source 7991 = 9999; close; count 4 = 7991; ofDistrict 7 3 = 998");
        Script y = row("Promise 4, refused if all is FLOWING", 1).run("source 5 = 99; bid 0 1 9; close; source 6 = 5; close");
        y.refuses("source 6; source 0; source 9999", STATE).run("count 4 = 6; most 1 = 6; burst 0; end; source 7 = 6");
        y.run("repair 0; most 1 = 7");
    }

    private static void need() {
        Script x = new Script("Promise 5, need: 0 to 999; returns that before").refuses("need 0 0; need -1 0", INDEX);
        x.run("district 99 7; district 99 999").refuses("need 2 0; need -1 0; need " + LEAST + " 0", INDEX);
        x.refuses("need " + GREATEST + " 0", INDEX).refuses("need 0 -1; need 0 1000; need 1 " + LEAST, ARGUMENT);
        x.refuses("need 1 " + GREATEST, ARGUMENT).run("need 0 0 = 7; need 0 999 = 0; need 0 998 = 999; need 1 1 = 999");
        x.run("close; end = 2; ofDistrict 0 7 = 998; ofDistrict 1 7 = 1; need 0 999 = 998; need 1 0 = 1; close; end = 1");
        x.run("ofDistrict 0 7 = 1997; ofDistrict 1 7 = 1; need 0 0 = 999");
        Script y = row("Promise 5, from the end of this hour on", 2).run("bid 0 1 9; need 0 5 = 0; close; need 0 4 = 5");
        y.run("close; need 0 3 = 4; need 1 2 = 0; ofDistrict 0 6 = 0; end = 1; ofDistrict 0 6 = 3; ofDistrict 1 7 = 2");
        y.run("close; end = 1; ofDistrict 0 6 = 6; ofDistrict 1 7 = 4; need 1 0 = 2; ofDistrict 1 7 = 4; close; end = 0");
    }

    private static void bidRanges() {
        Script x = row("Promise 6, price: 0 to 99", 2).refuses("bid 0 -1 1; bid 0 100 1; bid 1 " + LEAST + " 1", ARGUMENT);
        x.refuses("bid 0 " + GREATEST + " 1", ARGUMENT).run("bid 0 0 9; bid 1 99 9; close; ofDistrict 0 1 = 0");
        x.run("ofDistrict 1 1 = 99; bid 0 1 9; bid 1 99 8; close; close; ofDistrict 0 4 = 9; ofDistrict 1 4 = 792");
        Script y = row("Promise 6, units: 0 to 999", 2).refuses("bid 0 1 -1; bid 0 1 1000; bid 1 1 " + LEAST, ARGUMENT);
        y.refuses("bid 1 1 " + GREATEST + "; bid 0 -1 -1; bid 0 100 1000", ARGUMENT).run("bid 0 1 0; bid 1 1 999; close");
        y.run("ofDistrict 0 2 = 0; ofDistrict 1 2 = 999; bid 0 1 1; bid 1 1 998; close; ofDistrict 0 2 = 1");
        y.run("ofDistrict 1 2 = 998; close; ofDistrict 0 3 = 1; ofDistrict 1 3 = 9");
        Script z = new Script("Promise 6, district: its number").refuses("bid 0 0 0; bid -1 0 0", INDEX);
        z.run("district 9 0; bid 0 0 0 = 1").refuses("bid 1 0 0; bid -1 0 0; bid -2 0 0; bid " + LEAST + " 0 0", INDEX);
        z.refuses("bid " + GREATEST + " 0 0", INDEX).run("bid 0 1 1 = 1; district 9 0; bid 1 1 1 = 2");
    }

    private static void bidReturns() {
        Script x = row("Promise 6, returns how many bids were told in this round so far, one for each district", 8);
        for (int d = 0; d < 8; d++) {
            x.run("bid " + d + " 5 1 = " + (d + 1) + "; bid " + d + " 6 1 = " + (d + 1) + "; bid 0 5 2 = " + (d + 1));
        }
        x.refuses("bid 8 5 1", INDEX).refuses("bid 0 100 1", ARGUMENT).run("bid 3 9 9 = 8; close; bid 7 6 1 = 1");
        x.run("bid 6 6 1 = 2; bid 7 6 1 = 2; close; bid 6 6 1 = 1; close; close = true; end; bid 1 0 0 = 1; bid 0 0 0 = 2");
    }

    private static void bidStates() {
        Script x = row("Promise 6, refused if there is no BIDDING", 2).run("bid 0 5 1; close; close");
        x.refuses("bid 0 5 1; bid 1 0 0; bid 0 99 999; bid 0 4 1", STATE).run("burst 0").refuses("bid 1 9 9", STATE);
        x.run("end; bid 0 0 1 = 1");
        Script y = row("Promise 6, or the price is below that of its bid that stands", 2).run("bid 0 1 1; bid 1 99 1; close");
        y.refuses("bid 0 0 1; bid 1 98 1; bid 1 0 1", STATE).run("bid 0 1 1 = 1; bid 1 99 1 = 2; close");
        y.refuses("bid 0 0 1; bid 1 98 999", STATE).run("bid 0 2 1 = 1; bid 0 1 1 = 1").refuses("bid 0 0 1", STATE);
    }

    private static void close() {
        Script x = row("Promise 7, returns whether BIDDING is over", 1).run("bid 0 1 1; close = false; close = true");
        x.refuses("close", STATE).run("burst 0").refuses("close", STATE).run("end; close = true").refuses("close", STATE);
        x.run("end").run("bid 0 1 1; close = false; bid 0 1 1; close = false; bid 0 1 1; close = false; bid 0 1 1");
        x.run("close = false; bid 0 1 1; close = true").refuses("close", STATE);
        Script none = new Script("Promise 7, nothing there").run("close = true").refuses("close", STATE).run("end = 0");
        none.run("close = true; count 3 = 0; count 4 = 0; count 6 = 0");
        Script nets = new Script("Promise 7, no pipes").run("district 9 0; source 9; bid 0 9 9; close = false; close = true");
        nets.run("count 3 = 1; count 4 = 0; ofDistrict 0 4 = 0; place 0 = 0; flowAnew 0 = 0");
    }

    private static void burst() {
        Script x = new Script("Promise 8, pipe: its number").refuses("burst 0; burst -1", INDEX).run("district 9 0");
        x.run("source 99; pipe -1 0 4; pipe -1 0 3; bid 0 1 9").refuses("burst 2; burst -1; burst " + LEAST, INDEX);
        x.refuses("burst " + GREATEST, INDEX).run("burst 0 = 0; burst 1 = 0; count 2 = 2; close; close; count 4 = 0");
        x.refuses("burst 2; burst -1", INDEX);
        Script y = row("Promise 8, refused if it has burst", 2).run("burst 0 = 0").refuses("burst 0", STATE);
        y.run("bid 0 1 9; bid 1 1 9; close; close").refuses("burst 0", STATE).run("burst 1 = 9").refuses("burst 1", STATE);
        y.run("end").refuses("burst 0; burst 1", STATE).run("repair 0; burst 0 = 0").refuses("burst 0", STATE);
        y.run("count 2 = 2; repair 0; bid 0 1 9; close; close; burst 0 = 9; count 4 = 0; count 2 = 2");
        Script z = row("Promise 8, returns how many units less are got by that", 2).run("pipe 1 0 4; pipe -1 0 1; bid 0 5 9");
        z.run("bid 1 4 7; close; burst 3 = 0; close; burst 0 = 7; ofDistrict 0 3 = 4; ofDistrict 1 3 = 5; count 4 = 9");
        z.run("burst 2 = 4; ofDistrict 0 3 = 0; ofDistrict 1 3 = 5; burst 1 = 5; count 4 = 0; end; count 4 = 0");
    }

    private static void repair() {
        Script x = new Script("Promise 9, pipe: its number").refuses("repair 0; repair -1", INDEX).run("district 9 0");
        x.run("source 99; pipe -1 0 4; burst 0").refuses("repair 1; repair -1; repair " + LEAST, INDEX);
        x.refuses("repair " + GREATEST, INDEX).run("repair 0 = nothing; most 1 = 4; count 2 = 0");
        Script y = row("Promise 9, refused if it has not burst", 2).refuses("repair 0; repair 1", STATE).run("burst 1");
        y.refuses("repair 0", STATE).run("repair 1").refuses("repair 1", STATE).run("burst 1 = 0; repair 1; count 2 = 0");
        Script z = row("Promise 9, or all is FLOWING", 2).run("burst 0; bid 1 1 9; close; close; burst 1 = 9");
        z.refuses("repair 0; repair 1", STATE).run("count 2 = 2; end; repair 0; repair 1; count 2 = 0; most 3 = 18");
        z.run("burst 0; bid 0 1 9; close; repair 0; close; count 4 = 9");
    }

    private static void end() {
        Script x = new Script("Promise 10, returns how many districts lack something of their need").run("source 9999");
        x.run("close; end = 0");
        for (int d = 0; d < 8; d++) {
            x.run("district 99 " + d + "; pipe -1 " + d + " 99");
        }
        x.run("close; end = 7; bid 7 1 6; bid 6 1 6; bid 5 1 6; close; close; end = 5; ofDistrict 7 7 = 8");
        x.run("ofDistrict 6 7 = 6; ofDistrict 5 7 = 5; ofDistrict 5 0 = 1; need 0 1; close; end = 8");
        for (int d = 0; d < 8; d++) {
            x.run("need " + d + " 9; bid " + d + " 1 9");
        }
        x.run("close; close; end = 0; count 5 = 0");
        Script y = row("Promise 10, refused if there is BIDDING", 1).refuses("end", STATE).run("bid 0 1 1; close");
        y.refuses("end", STATE).run("close; burst 0 = 1; end = 0").refuses("end", STATE).run("hour = 1; close; end; hour = 2");
    }

    private static void hourAndRound() {
        Script x = row("Promise 11, the hour", 1).run("hour = 0; bid 0 1 1; close; hour = 0; close; hour = 0; burst 0");
        x.run("hour = 0; end; hour = 1; close; hour = 1").run("end; hour = 2").refuses("end", STATE).run("hour = 2");
        Script y = row("Promise 12, the round of now; NONE if all is FLOWING", 1);
        for (int r = 0; r <= 4; r++) {
            y.run("round = " + r + "; bid 0 1 1; round = " + r + "; close");
        }
        y.run("round = -1; burst 0; round = -1; end; round = 0; close; round = -1; end; round = 0");
    }

    private static void ofDistrict() {
        Script x = new Script("Promise 13, of no district").refuses("ofDistrict 0 0; ofDistrict -1 0", INDEX);
        x.run("district 10 4; district 0 0; source 9; pipe -1 0 8; pipe -1 0 5");
        x.refuses("ofDistrict 2 0; ofDistrict -1 8; ofDistrict " + LEAST + " 3; ofDistrict " + GREATEST + " 3", INDEX);
        x.refuses("ofDistrict 0 -1; ofDistrict 0 9; ofDistrict 1 " + LEAST + "; ofDistrict 1 " + GREATEST, INDEX);
        x.refuses("ofDistrict 2 9; ofDistrict -1 -1", INDEX);
        told(x, 0, 0, -1, -1, 0, 0, 0, 0, 0, 0);
        x.run("bid 0 3 9");
        told(x, 0, 0, -1, -1, 0, 0, 0, 0, 0, 0);
        x.run("close");
        told(x, 0, 0, 3, 9, 0, 0, 0, 0, 0, 0);
        x.run("close");
        told(x, 0, 0, 3, 9, 9, 27, 0, 0, 0, 0);
        x.run("burst 0 = 4");
        told(x, 0, 0, 3, 9, 5, 27, 13, 0, 0, 0);
        x.run("end = 0");
        told(x, 0, 1, -1, -1, 0, 27, 13, 4, 0, 0);
        x.run("close; end = 1");
        told(x, 0, 0, -1, -1, 0, 27, 13, 5, 3, 0);
        x.run("repair 0; source 13; bid 0 0 13; close; close");
        told(x, 0, 0, 0, 13, 13, 27, 13, 5, 3, 0);
        x.run("end = 0");
        told(x, 0, 6, -1, -1, 0, 27, 13, 9, 3, 3);
        told(x, 1, 0, -1, -1, 0, 0, 0, 0, 0, 0);
    }

    private static void told(Script x, int district, int... answers) {
        for (int what = 0; what < answers.length; what++) {
            x.run("ofDistrict " + district + " " + what + " = " + answers[what]);
        }
    }

    private static void flowAnew() {
        Script x = new Script("Promise 14, of no district").refuses("flowAnew 0; flowAnew -1", INDEX).run("district 9 0");
        x.refuses("flowAnew 1; flowAnew " + LEAST + "; flowAnew " + GREATEST, INDEX).run("flowAnew 0 = 0");
        Script y = row("Promise 14, 0 in BIDDING; 0 without a bid", 3).run("bid 0 1 9; bid 1 1 0; flowAnew 0 = 0; close");
        y.run("flowAnew 0 = 0; bid 0 1 8; close; flowAnew 0 = 0; flowAnew 2 = 0; close; flowAnew 0 = 8; flowAnew 1 = 0");
        y.run("flowAnew 2 = 0; burst 0; flowAnew 0 = 0; flowAnew 1 = 0; flowAnew 2 = 0; end; flowAnew 0 = 0");
        Script z = new Script("Promise 14, what can flow to all bids up to its own, less what can flow to those ahead");
        z.run("source 20");
        for (int d = 0; d < 8; d++) {
            z.run("district 99 0; pipe " + (d % 2 == 0 ? -1 : d - 1) + " " + d + " 9; bid " + d + " " + d + " 4");
        }
        z.run("close; close; flowAnew 7 = 4; flowAnew 6 = 4; flowAnew 5 = 4; flowAnew 4 = 4; flowAnew 3 = 4; count 4 = 20");
        z.run("flowAnew 2 = 0; flowAnew 1 = 0; flowAnew 0 = 0; burst 7 = 4; flowAnew 7 = 0; flowAnew 6 = 4; flowAnew 2 = 0");
        z.run("burst 2 = 4; flowAnew 3 = 0; flowAnew 2 = 0; flowAnew 1 = 0; count 4 = 12");
        flowAnewWithBursts();
    }

    private static void flowAnewWithBursts() {
        Script x = row("Promise 14, in an hour with bursts, but none while all was FLOWING", 2).run("bid 0 5 9; bid 1 4 8");
        x.run("burst 0 = 0; close; pipe -1 0 4; close; flowAnew 0 = 4; flowAnew 1 = 8; end; bid 0 5 3; close; burst 2 = 0");
        x.run("close; flowAnew 0 = 0; flowAnew 1 = 0; end; repair 0; bid 0 5 3; close; close; flowAnew 0 = 3");
        Script y = row("Promise 14, by what was got ahead of the latest one of these", 2).run("source 12; pipe 1 0 9");
        y.run("bid 0 5 9; bid 1 4 9; close; close; flowAnew 0 = 9; flowAnew 1 = 3; burst 0 = 3; flowAnew 0 = 9");
        y.run("flowAnew 1 = 0; burst 2 = 9; flowAnew 0 = 0; flowAnew 1 = 0; most 2 = 9; end; repair 0; bid 1 4 9; close");
        y.run("close; flowAnew 1 = 9; flowAnew 0 = 0");
    }

    private static void most() {
        Script x = new Script("Promise 15, of no district").run("most 0 = 0; source 99; most 0 = 0");
        x.refuses("most 1; most -1; most 256; most " + LEAST + "; most " + GREATEST, ARGUMENT).run("district 9 0");
        x.run("most 1 = 0; pipe -1 0 5; most 1 = 5; most 0 = 0").refuses("most 2; most 3; most -1; most -2", ARGUMENT);
        Script all = row("Promise 15, bit d for the district d", 8).run("source 60; pipe 0 1 9; pipe 7 6 9; most 255 = 60");
        for (int d = 0; d < 8; d++) {
            all.run("most " + (1 << d) + " = " + (d == 1 || d == 6 ? 18 : 9));
        }
        all.refuses("most 256; most 257; most 511; most -255; most " + (1 << 30), ARGUMENT).run("most 128 = 9");
        all.run("most 3 = 18; most 2 = 18; most 194 = 36; most 127 = 60; source 0; most 255 = 0; source 72; most 255 = 72");
        Script y = row("Promise 15, whatever bids and tanks", 2).run("most 3 = 18; bid 0 9 2; bid 1 8 0; most 3 = 18; close");
        y.run("most 1 = 9; most 3 = 18; close; most 1 = 9; most 2 = 9; most 3 = 18; end; most 3 = 18; count 7 = 2");
        for (int h = 0; h < 11; h++) {
            y.run("bid 0 1 9; close; close; end");
        }
        y.run("ofDistrict 0 0 = 99; ofDistrict 0 8 = 2; most 1 = 9; most 3 = 18; burst 0; most 1 = 0; most 3 = 9");
    }

    private static void place() {
        Script x = new Script("Promise 16, of no district").refuses("place 0; place -1", INDEX).run("district 9 0");
        x.refuses("place 1; place -1; place " + LEAST + "; place " + GREATEST, INDEX).run("place 0 = -1");
        Script y = row("Promise 16, the place, from 0; NONE without a bid that stands", 8).run("bid 7 0 0");
        for (int d = 0; d < 7; d++) {
            y.run("bid " + d + " " + (9 - d) + " 0; place " + d + " = -1");
        }
        y.run("close; place 0 = 0; place 1 = 1; place 2 = 2; place 3 = 3; place 4 = 4; place 5 = 5; place 6 = 6");
        y.run("place 7 = 7; bid 7 99 1; place 7 = 7; close; place 7 = 0; place 0 = 1; place 6 = 7; close = true");
        y.run("place 7 = 0; place 0 = -1; place 6 = -1; burst 7; place 7 = 0; end; place 7 = -1; bid 7 1 1; place 7 = -1");
    }

    private static void countFew() {
        Script x = new Script("Promise 17, what: 0 to 7").refuses("count -1; count 8; count " + LEAST, ARGUMENT);
        x.refuses("count " + GREATEST, ARGUMENT);
        counted(x, 0, 0, 0, 0, 0, 0, 0, 0);
        x.run("district 20 2; district 3 1; source 12; pipe -1 0 9; pipe -1 1 9; pipe 0 1 5");
        counted(x, 2, 3, 0, 0, 0, 0, 0, 0);
        x.run("burst 2; bid 0 4 9; bid 1 3 9");
        counted(x, 2, 3, 1, 0, 0, 0, 0, 0);
        x.run("close");
        counted(x, 2, 3, 1, 2, 0, 0, 0, 0);
        x.run("close");
        counted(x, 2, 3, 1, 2, 12, 0, 45, 0);
        x.run("burst 1");
        counted(x, 2, 3, 2, 2, 9, 0, 36, 0);
        x.run("end");
        counted(x, 2, 3, 2, 0, 0, 7, 36, 9);
        x.run("repair 1; bid 1 0 9; close; close");
        counted(x, 2, 3, 1, 1, 9, 7, 36, 9);
        x.run("end; repair 2");
        counted(x, 2, 3, 0, 0, 0, 7, 36, 18);
        x.run("bid 0 20 9; close; close; burst 0 = 9");
        counted(x, 2, 3, 1, 1, 0, 7, 18, 18);
        x.run("end; repair 0; bid 0 99 9; close; close; burst 0; end; repair 0; bid 0 99 9; close; close; burst 0; end");
        counted(x, 2, 3, 1, 0, 0, 0, -160, 18);
    }

    private static void countAll() {
        Script x = new Script("Promise 17, all that can be there").run("source 9999");
        for (int d = 0; d < 8; d++) {
            x.run("district 9999 0; pipe -1 " + d + " 999; pipe -1 " + d + " 999; pipe -1 " + d + " 999");
        }
        for (int h = 0; h < 11; h++) {
            for (int d = 0; d < 8; d++) {
                x.run("bid " + d + " 99 999");
            }
            x.run("close; close; end = 0");
        }
        counted(x, 8, 24, 0, 0, 0, 79992, 8703288, 87912);
        for (int d = 0; d < 8; d++) {
            x.run("bid " + d + " 99 999");
        }
        x.run("close; close; burst 0 = 0; count 3 = 8; count 4 = 7992; count 6 = 9494496");
        for (int p = 1; p < 24; p++) {
            x.run("burst " + p + " = " + (p % 3 == 2 ? 999 : 0));
        }
        counted(x, 8, 24, 24, 8, 0, 79992, 8624168, 87912);
    }

    private static void counted(Script x, int... answers) {
        for (int what = 0; what < answers.length; what++) {
            x.run("count " + what + " = " + answers[what]);
        }
    }
}
