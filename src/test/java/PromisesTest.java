/** The promises one by one: ordinary inputs, the edges that the document names, and wrong inputs. */
final class PromisesTest {
    private static final String INDEX = Script.INDEX;
    private static final String ARGUMENT = Script.ARGUMENT;
    private static final String STATE = Script.STATE;
    private static final int LEAST = Integer.MIN_VALUE;
    private static final int GREATEST = Integer.MAX_VALUE;

    public static void main(String[] args) {
        promise1();
        promise2();
        promise3();
        promise4();
        promise5();
        promise6();
        promise7();
        promise8();
        promise8Again();
        promise9();
        promise10();
        promise10LastHour();
        promise11();
        promise12();
        promise13();
        promise14();
        promise15();
        promise16();
        promise17();
        readme();
        Script.finish("PromisesTest");
    }

    /** Two districts: 8 units can come to the first, 5 of these or 2 others to the second. */
    private static Script twoDistricts(String name) {
        return new Script(name).run("district 10 3; district 20 4; source 9; pipe -1 0 8; pipe 0 1 5; pipe -1 1 2");
    }

    private static Script flowing(String name) {
        return twoDistricts(name).run("bid 0 7 4; bid 1 6 9; close = false; close = true");
    }

    private static void promise1() {
        Script.same("Promise 1: NONE", "" + PipewrightExchange.NONE, "-1");
        Script x = new Script("Promise 1").run("hour = 0; round = 0; most 0 = 0");
        for (int what = 0; what < 8; what++) {
            x.run("count " + what + " = 0");
        }
        x.refuses("ofDistrict 0 0", INDEX).refuses("burst 0", INDEX).refuses("most 1", ARGUMENT);
        x.run("source 5 = 0");
        Script other = new Script("Promise 1, another object").run("district 1 1 = 0; source 6 = 0; pipe -1 0 3 = 0");
        x.run("count 0 = 0; count 1 = 0; source 0 = 5");
        other.run("count 0 = 1; count 1 = 1; source 0 = 6");
    }

    private static void promise2() {
        Script x = new Script("Promise 2");
        x.refuses("district -1 0", ARGUMENT).refuses("district 10000 0", ARGUMENT);
        x.refuses("district 0 -1", ARGUMENT).refuses("district 0 1000", ARGUMENT);
        x.refuses("district " + LEAST + " 0", ARGUMENT).refuses("district 0 " + GREATEST, ARGUMENT);
        x.run("district 0 0 = 0; district 9999 999 = 1; ofDistrict 0 0 = 0; ofDistrict 1 0 = 0");
        x.run("need 0 5 = 0; need 1 5 = 999; ofDistrict 1 1 = -1; ofDistrict 1 3 = 0; place 1 = -1");
        x.run("close; district 4 4 = 2; district 0 7 = 3; district 0 0 = 4; district 0 0 = 5; district 0 0 = 6");
        x.run("count 0 = 7; district 0 0 = 7; count 0 = 8; round = -1");
        x.refuses("district 0 0", STATE).refuses("district 10000 0", ARGUMENT).refuses("district 0 1000", ARGUMENT);
        x.run("end = 4; ofDistrict 2 7 = 4; ofDistrict 3 7 = 7; ofDistrict 7 7 = 0");
    }

    private static void promise3() {
        Script x = new Script("Promise 3");
        x.refuses("pipe -1 0 1", INDEX);
        x.run("district 5 5; district 6 6");
        x.refuses("pipe -2 0 1", INDEX).refuses("pipe 2 0 1", INDEX).refuses("pipe 0 2 1", INDEX);
        x.refuses("pipe 0 -1 1", INDEX).refuses("pipe -1 -1 1", INDEX).refuses("pipe 2 2 0", INDEX);
        x.refuses("pipe " + GREATEST + " 0 1", INDEX).refuses("pipe 0 " + LEAST + " 1", INDEX);
        x.refuses("pipe 0 0 1", ARGUMENT).refuses("pipe -1 0 0", ARGUMENT).refuses("pipe 0 1 1000", ARGUMENT);
        x.refuses("pipe 1 0 -1", ARGUMENT);
        x.run("source 9999; pipe -1 0 1 = 0; pipe -1 0 999 = 1; pipe 0 1 30 = 2; pipe 1 0 2 = 3; count 1 = 4");
        x.run("most 1 = 1000; most 2 = 30; most 3 = 1000");
        for (int p = 4; p < 24; p++) {
            x.run("pipe -1 1 1 = " + p);
        }
        x.run("most 2 = 50; most 1 = 1002").refuses("pipe -1 0 1", STATE);
        x.refuses("pipe -1 2 1", INDEX).refuses("pipe 1 1 1", ARGUMENT).refuses("pipe -1 1 0", ARGUMENT);
        Script y = flowing("Promise 3, FLOWING");
        y.refuses("pipe -1 0 5", STATE).refuses("pipe -1 2 5", INDEX).refuses("pipe 0 0 5", ARGUMENT);
        y.run("end; pipe 1 0 5 = 3");
    }

    private static void promise4() {
        Script x = new Script("Promise 4").run("district 9 0; pipe -1 0 999; source 9999 = 0; most 1 = 999");
        x.run("source 0 = 9999; most 1 = 0; source 17 = 0; most 1 = 17");
        x.refuses("source -1", ARGUMENT).refuses("source 10000", ARGUMENT).refuses("source " + LEAST, ARGUMENT);
        x.run("bid 0 1 20; close; source 18 = 17; close = true; ofDistrict 0 3 = 18");
        x.refuses("source 5", STATE).refuses("source 10000", ARGUMENT).run("end; source 3 = 18");
    }

    private static void promise5() {
        Script x = new Script("Promise 5").refuses("need 0 0", INDEX);
        x.run("district 50 4; district 50 0").refuses("need -1 0", INDEX).refuses("need 2 0", INDEX);
        x.refuses("need 2 1000", INDEX).refuses("need 0 1000", ARGUMENT).refuses("need 1 -1", ARGUMENT);
        x.run("need 0 999 = 4; need 0 0 = 999; need 0 6 = 0; close = true; need 1 2 = 0");
        x.refuses("need 0 " + GREATEST, ARGUMENT);
        x.run("end = 2; ofDistrict 0 7 = 6; ofDistrict 1 7 = 2; need 0 0 = 6; close; end = 1; ofDistrict 0 7 = 6");
    }

    private static void promise6() {
        Script x = twoDistricts("Promise 6");
        x.refuses("bid 2 0 0", INDEX).refuses("bid -1 100 0", INDEX);
        x.refuses("bid 0 100 0", ARGUMENT).refuses("bid 0 -1 0", ARGUMENT).refuses("bid 0 0 -1", ARGUMENT);
        x.refuses("bid 0 0 1000", ARGUMENT).refuses("bid 1 " + LEAST + " 0", ARGUMENT);
        x.run("bid 0 5 1 = 1; bid 0 3 2 = 1; bid 1 0 0 = 2; bid 0 4 999 = 2; bid 1 99 3 = 2");
        x.run("ofDistrict 0 1 = -1; ofDistrict 0 2 = -1; count 3 = 0; close = false");
        x.run("ofDistrict 0 1 = 4; ofDistrict 0 2 = 999; ofDistrict 1 1 = 99; ofDistrict 1 2 = 3; count 3 = 2");
        x.refuses("bid 0 3 1", STATE).refuses("bid 0 -1 1", ARGUMENT).refuses("bid 1 98 3", STATE);
        x.run("bid 0 6 1 = 1").refuses("bid 0 3 1", STATE);
        x.run("bid 0 4 8 = 1; close = false; ofDistrict 0 1 = 4; ofDistrict 0 2 = 8; ofDistrict 1 1 = 99");
        x.run("close = true").refuses("bid 0 50 1", STATE).refuses("bid 0 100 1", ARGUMENT).refuses("bid 2 5 1", INDEX);
        x.run("end; bid 0 0 1 = 1");
        Script gone = twoDistricts("Promise 6, a bid that is gone binds no more");
        gone.run("bid 0 9 1; close; bid 1 1 1; close; bid 1 1 1; close; bid 0 0 1 = 1");
    }

    private static void promise7() {
        Script empty = new Script("Promise 7, no district").run("close = true; round = -1");
        empty.refuses("close", STATE).run("end; close = true");
        Script x = twoDistricts("Promise 7");
        x.run("bid 0 5 1; bid 1 5 2; close = false; bid 1 6 3; close = false; ofDistrict 0 2 = 1; count 3 = 2");
        x.run("bid 1 7 4; close = false; ofDistrict 0 1 = -1; ofDistrict 0 2 = -1; count 3 = 1; place 1 = 0");
        x.run("close = true; ofDistrict 1 2 = 4; ofDistrict 1 3 = 4").refuses("close", STATE);
        Script five = twoDistricts("Promise 7, five rounds");
        for (int r = 0; r < 4; r++) {
            five.run("round = " + r + "; bid 0 5 " + r + " = 1; close = false");
        }
        five.run("round = 4; bid 0 5 8; bid 1 0 9; close = true; round = -1; ofDistrict 0 3 = 8; ofDistrict 1 3 = 1");
        five.run("ofDistrict 0 4 = 40; ofDistrict 1 4 = 0; count 4 = 9");
        Script last = twoDistricts("Promise 7, silent in the last round as well");
        last.run("bid 0 5 4; bid 1 5 4; close; bid 0 5 4; close; bid 0 5 4; bid 1 5 4; close; bid 0 5 4; close");
        last.run("place 1 = 0; bid 0 6 3; close = true; ofDistrict 1 1 = -1; ofDistrict 1 3 = 0; ofDistrict 0 3 = 3");
        Script back = twoDistricts("Promise 7, silent in rounds that do not follow each other");
        back.run("bid 0 5 4; bid 1 1 1; close; bid 0 5 4; close; bid 1 1 1; close; bid 0 5 4; close; count 3 = 2");
        back.run("close = true; count 3 = 1; place 0 = 0; place 1 = -1");
    }

    private static void promise8() {
        Script x = twoDistricts("Promise 8").refuses("burst 3", INDEX).refuses("burst -1", INDEX);
        x.run("bid 0 7 4; bid 1 6 9; burst 2 = 0; count 2 = 1").refuses("burst 2", STATE);
        x.run("most 2 = 5; close; close = true; ofDistrict 0 3 = 4; ofDistrict 1 3 = 4");
        x.run("burst 1 = 4; ofDistrict 1 3 = 0; ofDistrict 1 4 = 24; ofDistrict 1 5 = 26; ofDistrict 0 5 = 0");
        x.refuses("burst 1", STATE).run("burst 0 = 4; ofDistrict 0 5 = 30; count 6 = -4; count 2 = 3");
        x.run("end = 2; count 7 = 0; count 2 = 3; ofDistrict 0 5 = 30");
        // The first one's way moves to where the second one's went; nobody gets what that sets free.
        Script y = new Script("Promise 8, the order decides");
        y.run("district 99 0; district 99 0; district 99 0; source 12; pipe -1 0 6; pipe -1 1 6; pipe 0 2 6");
        y.run("pipe 1 2 4; bid 2 9 6; bid 1 8 6; bid 0 7 6; close; close");
        y.run("ofDistrict 2 3 = 6; ofDistrict 1 3 = 6; ofDistrict 0 3 = 0");
        y.run("burst 2 = 6; ofDistrict 2 3 = 4; ofDistrict 1 3 = 2; ofDistrict 0 3 = 0; flowAnew 0 = 0");
        y.run("ofDistrict 2 5 = 19; ofDistrict 1 5 = 35; count 4 = 6; ofDistrict 2 2 = 6; ofDistrict 0 1 = 7");
    }

    private static void promise8Again() {
        Script x = new Script("Promise 8, a tenth is rounded down for each burst").run("district 99 0; source 9");
        x.run("pipe -1 0 1; pipe -1 0 1; pipe -1 0 1; bid 0 9 9; close; close; count 4 = 3; count 6 = 27");
        x.run("burst 1 = 1; ofDistrict 0 5 = 9; burst 0 = 1; ofDistrict 0 5 = 18; burst 2 = 1; ofDistrict 0 5 = 27");
        x.run("end; repair 1; bid 0 10 1; close; close; count 6 = 10; burst 1 = 1; ofDistrict 0 5 = 38; count 6 = -1");
        Script y = new Script("Promise 8, a pipe that nothing went by").run("district 9 0; district 9 0; source 9");
        y.run("pipe -1 0 4; pipe -1 1 4; bid 0 1 4; close; close; burst 1 = 0; count 4 = 4; ofDistrict 0 5 = 0");
    }

    private static void promise9() {
        Script x = flowing("Promise 9").refuses("repair 3", INDEX).refuses("repair -1", INDEX);
        x.refuses("repair 0", STATE).run("burst 0").refuses("repair 0", STATE).refuses("repair 3", INDEX);
        x.run("end").refuses("repair 1", STATE).run("most 1 = 0; repair 0 = nothing; most 1 = 8; count 2 = 0");
        x.refuses("repair 0", STATE).run("bid 0 1 8; burst 0 = 0; repair 0; close; close; ofDistrict 0 3 = 8");
    }

    private static void promise10() {
        Script x = twoDistricts("Promise 10").refuses("end", STATE).run("bid 0 2 8; bid 1 1 9; close");
        x.refuses("end", STATE).run("close; ofDistrict 0 3 = 8; ofDistrict 1 3 = 1; end = 1");
        x.run("ofDistrict 0 0 = 5; ofDistrict 1 0 = 0; ofDistrict 0 6 = 3; ofDistrict 1 6 = 1; ofDistrict 1 7 = 3");
        x.run("round = 0; hour = 1; count 3 = 0; ofDistrict 0 1 = -1; ofDistrict 0 3 = 0; flowAnew 0 = 0");
        x.refuses("end", STATE);
        x.run("bid 0 1 8; close; close; end = 1; ofDistrict 0 8 = 3; ofDistrict 0 0 = 7; ofDistrict 1 7 = 7");
        x.run("ofDistrict 0 4 = 24; count 5 = 7; count 7 = 17; close; end = 1; close; end = 1; ofDistrict 0 0 = 1");
        x.run("close; end = 2; ofDistrict 0 0 = 0; ofDistrict 0 6 = 13");
        x.run("ofDistrict 0 7 = 2");
        Script silent = twoDistricts("Promise 10, silence of an hour that is over");
        silent.run("bid 1 1 1; close; close; end; bid 0 1 1; close; bid 1 1 1; close; count 3 = 2");
        Script full = new Script("Promise 10, a need beyond the tank").run("district 2 5; source 9; pipe -1 0 9");
        full.run("bid 0 3 6; close; close; end = 1; ofDistrict 0 8 = 4; ofDistrict 0 6 = 2; ofDistrict 0 7 = 3");
        full.run("bid 0 3 5; close; close; end = 1; ofDistrict 0 8 = 7; need 0 2; bid 0 0 9; close; close; end = 0");
        full.run("ofDistrict 0 8 = 14; ofDistrict 0 6 = 6; ofDistrict 0 7 = 6; ofDistrict 0 4 = 33");
    }

    /** Beyond the 512th call answers are free; the throws clause is held to all the same. */
    private static void promise10LastHour() {
        PipewrightExchange x = new PipewrightExchange();
        for (int h = 0; h < 1000; h++) {
            x.close();
            x.end();
        }
        Script.same("Promise 10, the hour 1000", Script.answer(x, "hour"), "1000");
        Script.same("Promise 10, BIDDING in it", Script.answer(x, "end"), STATE);
        x.close();
        Script.same("Promise 10, the end of it", Script.answer(x, "end"), STATE);
        Script.same("Promise 10, the hour stays", Script.answer(x, "hour") + Script.answer(x, "round"), "1000-1");
    }

    private static void promise11() {
        Script x = new Script("Promise 11").run("hour = 0");
        for (int h = 0; h < 100; h++) {
            x.run("close; hour = " + h + "; end = 0; hour = " + (h + 1));
        }
    }

    private static void promise12() {
        Script x = twoDistricts("Promise 12").run("round = 0; bid 0 1 1; round = 0; close; round = 1; close; round = -1");
        x.run("burst 0; round = -1; end; round = 0; bid 0 1 1; close; bid 0 1 1; close; round = 2");
    }

    private static void promise13() {
        Script x = flowing("Promise 13");
        x.refuses("ofDistrict -1 0", INDEX).refuses("ofDistrict 2 0", INDEX).refuses("ofDistrict 0 9", INDEX);
        x.refuses("ofDistrict 0 -1", INDEX).refuses("ofDistrict " + GREATEST + " " + LEAST, INDEX);
        x.run("ofDistrict 1 0 = 0; ofDistrict 1 1 = 6; ofDistrict 1 2 = 9; ofDistrict 1 3 = 5; ofDistrict 1 4 = 30");
        x.run("ofDistrict 1 5 = 0; ofDistrict 1 6 = 0; ofDistrict 1 7 = 0; ofDistrict 1 8 = 0");
        x.run("burst 2 = 1; ofDistrict 1 5 = 6; end = 0; ofDistrict 0 0 = 1; ofDistrict 1 0 = 0; ofDistrict 1 6 = 4");
        x.run("ofDistrict 1 1 = -1; ofDistrict 1 2 = -1; ofDistrict 1 3 = 0; ofDistrict 1 4 = 30; ofDistrict 1 5 = 6");
        x.run("bid 0 0 0; ofDistrict 0 1 = -1; close; ofDistrict 0 1 = 0; ofDistrict 0 2 = 0; ofDistrict 0 3 = 0");
    }

    private static void promise14() {
        Script x = flowing("Promise 14").refuses("flowAnew 2", INDEX).refuses("flowAnew -1", INDEX);
        x.run("flowAnew 0 = 4; flowAnew 1 = 5; burst 2 = 1; flowAnew 0 = 4; flowAnew 1 = 4; burst 1; flowAnew 1 = 0");
        x.run("flowAnew 0 = 4; district 3 3; flowAnew 2 = 0; end; flowAnew 0 = 0; bid 0 1 1; close; flowAnew 0 = 0");
        // The first bid could also take what the second has no other way for: both ways count together.
        Script y = new Script("Promise 14, ways that move");
        y.run("district 9 0; district 9 0; district 9 0; source 9; pipe -1 0 3; pipe -1 1 3; pipe 0 2 3; pipe 1 2 3");
        y.run("bid 2 5 3; bid 0 4 3; bid 1 3 9; close; close; flowAnew 2 = 3; flowAnew 0 = 3; flowAnew 1 = 0");
        y.run("ofDistrict 2 3 = 3; ofDistrict 0 3 = 3; ofDistrict 1 3 = 0");
        // The second bid sends back what flows to the first one through it, over a pipe the other way as well.
        Script z = new Script("Promise 14, ways that go back");
        z.run("district 9 0; district 9 0; district 9 0; source 99; pipe -1 0 2; pipe 0 1 5; pipe 1 0 3; pipe -1 2 9");
        z.run("pipe 2 1 9; bid 1 5 2; bid 0 4 9; close; close; ofDistrict 1 3 = 2; ofDistrict 0 3 = 5; flowAnew 0 = 5");
        z.run("burst 2 = 3; ofDistrict 1 3 = 2; ofDistrict 0 3 = 2; flowAnew 0 = 2");
    }

    private static void promise15() {
        Script x = twoDistricts("Promise 15");
        x.refuses("most -1", ARGUMENT).refuses("most 4", ARGUMENT).refuses("most 5", ARGUMENT);
        x.refuses("most " + LEAST, ARGUMENT).refuses("most " + GREATEST, ARGUMENT);
        x.run("most 0 = 0; most 1 = 8; most 2 = 7; most 3 = 9; source 10; most 3 = 10; source 11; most 3 = 10");
        x.run("bid 0 5 1; close; close; most 1 = 8; most 3 = 10; burst 1 = 0; most 2 = 2; end; most 2 = 2");
        x.run("repair 1; most 2 = 7");
        Script full = new Script("Promise 15, 8 districts").run("source 9999");
        for (int d = 0; d < 8; d++) {
            full.run("district 0 0; pipe -1 " + d + " 999; pipe -1 " + d + " 999; pipe -1 " + d + " " + (d + 1));
        }
        full.run("most 255 = 9999; most 128 = 2006; most 1 = 1999; most 129 = 4005").refuses("most 256", ARGUMENT);
        Script ring = new Script("Promise 15, a ring without the source").run("district 1 1; district 1 1; source 5");
        ring.run("pipe 0 1 9; pipe 1 0 9; most 3 = 0; most 1 = 0; pipe -1 1 3; most 1 = 3; most 2 = 3; most 3 = 3");
    }

    private static void promise16() {
        Script x = new Script("Promise 16").refuses("place 0", INDEX);
        x.run("district 9 0; district 9 0; district 9 0; district 9 0").refuses("place 4", INDEX);
        x.refuses("place -1", INDEX).run("bid 0 5 1; bid 1 5 1; bid 2 6 1; place 0 = -1; close");
        x.run("place 0 = 1; place 1 = 2; place 2 = 0; place 3 = -1; bid 3 6 1; bid 0 5 2; place 0 = 1; close");
        x.run("place 2 = 0; place 3 = 1; place 1 = 2; place 0 = 3; close = true; place 2 = -1; place 3 = 0");
        x.run("place 1 = -1; place 0 = 1; end; place 3 = -1; place 0 = -1");
        x.run("bid 1 5 1; bid 0 5 1; bid 1 5 1; close; place 0 = 0; place 1 = 1");
    }

    private static void promise17() {
        Script x = twoDistricts("Promise 17").refuses("count -1", ARGUMENT).refuses("count 8", ARGUMENT);
        x.refuses("count " + LEAST, ARGUMENT).refuses("count " + GREATEST, ARGUMENT);
        x.run("count 0 = 2; count 1 = 3; count 2 = 0; burst 1; count 2 = 1; bid 0 7 8; bid 1 6 9; count 3 = 0; close");
        x.run("count 3 = 2; count 4 = 0; close; count 3 = 2; count 4 = 9; count 5 = 0; count 6 = 62; count 7 = 0");
        x.run("burst 0 = 8; count 4 = 1; count 6 = 1; count 2 = 2; end = 2");
        x.run("count 7 = 1; count 5 = 0; count 4 = 0; count 3 = 0; repair 0; bid 0 1 8; close; close; end; count 5 = 5");
        x.run("count 7 = 9; count 6 = 9; count 2 = 1");
    }

    /** The calls that README.md shows under "Use". */
    private static void readme() {
        Script x = new Script("README.md").run("district 50 4 = 0; district 20 6 = 1; source 20; pipe -1 0 10; pipe 0 1 6");
        x.run("bid 0 5 6 = 1; bid 1 7 5 = 2; close = false; close = true; ofDistrict 1 3 = 5; burst 1 = 5; end = 1");
    }
}
