/** The sentences of the promises 10 to 16: a week, the acts, what one and the shop has. */
final class DoneSentences extends Held {
    static void all() {
        weeks();
        weeksRefused();
        taken();
        whoTakes();
        lent();
        struck();
        whoPays();
        steady();
        rolling();
        hay();
        twice();
        rogue();
        wholesaler();
        shut();
        stop();
        strike();
        cross();
        crossRefused();
        dearer();
        debtor();
        shopHas();
        leaves();
    }

    private static void weeks() {
        promise(10);
        sentence("n WEEKS (1 to 24), an ACT each: CASH.");
        range("n", 1, 24, n -> of(STEADY).weeks(n));
        SlateShop x = of(STEADY);
        due("1", x.weeks(1), 10 + 9);
        due("an act", x.count(7), 1);
        due("23", x.weeks(23), 10);
        due("an act each", x.count(7), 24);
        due("24", x.weeks(24), 10);
        due("WEEK", x.count(4), 48);
        x.undo();
        due("one is undone", x.count(4), 47);
        due("CASH below 0", of("f0,0,1;s0,9,99;").weeks(1), -9);
        term(2, "WEEK is 1 more.");
        SlateShop y = of(CALM);
        due("at first", y.count(4), 0);
        y.weeks(1);
        due("1 more", y.count(4), 1);
        y.weeks(24);
        due("24 more", y.count(4), 25);
    }

    private static void weeksRefused() {
        promise(10);
        sentence("BAD; STATE: no SHOP (ahead of BAD); FULL: more than 999 would be gone.");
        due("no shop", new SlateShop().weeks(1), STATE);
        due("no shop ahead of BAD", new SlateShop().weeks(0), STATE);
        due("no shop ahead of BAD, above", new SlateShop().weeks(25), STATE);
        due("to 999", of(CALM, 975).weeks(24), 99);
        due("to 1000", of(CALM, 976).weeks(24), FULL);
        SlateShop x = of(CALM, 998);
        due("998", x.count(4), 998);
        due("2 more", x.weeks(2), FULL);
        due("none of the two", x.count(4), 998);
        due("1 more", x.weeks(1), 99);
        due("999", x.count(4), 999);
        due("1 more", x.weeks(1), FULL);
        due("24 more", x.weeks(24), FULL);
        bad("ahead of FULL, n", n -> x.weeks(n), 0, 25, -1, LEAST, MOST);
        x.undo();
        due("one is undone", x.weeks(1), 99);
        due("all is foretold yet", x.ahead(60, 0), 99);
        due("an act yet", x.stop(0, 1), 0);
    }

    private static void taken() {
        promise(10);
        term(2, "takes WANTS, or so much as STOP is more than DEBT (0 at least), if that is less:");
        int[][] all = {{10, 9, 9}, {10, 10, 10}, {10, 11, 10}, {40, 99, 40}, {0, 99, 0}, {40, 0, 0}, {40, 1, 1}, {1, 1, 1}};
        for (int[] a : all) {
            SlateShop x = of("f99,0,8;s0," + a[0] + "," + a[1] + ";", 1);
            due("wants " + a[0] + " of " + a[1], x.debtor(0, 7), a[2]);
            due("owed", x.shopHas(1), a[2]);
        }
        due("STOP 1 more than DEBT", of("f99,0,8;s0,10,11;", 2).debtor(0, 7), 11);
        due("STOP is DEBT", of("f99,0,8;s0,10,10;", 2).debtor(0, 7), 10);
        due("twice, then 19", of("f99,0,8;s0,40,99;", 9).debtor(0, 7), 99);
        SlateShop over = of("f99,20,8;s0,10,10;", 2);
        due("0 at least, DEBT above STOP", over.debtor(0, 7), 10);
        due("it is no less", over.debtor(0, 0), 20);
        SlateShop stopped = of("f99,0,8;s0,10,99;", 1);
        stopped.stop(0, 9);
        stopped.weeks(1);
        due("0 at least, stopped below DEBT", stopped.debtor(0, 0), 10);
        stopped.stop(0, 0);
        stopped.weeks(1);
        due("stopped at 0", stopped.shopHas(1), 10);
    }

    private static void whoTakes() {
        promise(10);
        term(2, "A WEEK: if the shop is not SHUT, each debtor in order who is not CROSSED OUT, not GONE,");
        SlateShop x = of("f9,0,1;s0,10,99;", 1);
        due("takes", x.debtor(0, 7), 10);
        x.weeks(3);
        due("SHUT, nothing", x.debtor(0, 7), 10);
        due("no debt", x.debtor(0, 0), 10);
        SlateShop y = of("f99,0,8;s0,1,99;g0,9,9;s0,3,99;", 1);
        y.cross(2, 1);
        y.weeks(1);
        due("each", y.debtor(0, 7), 2);
        due("not one GONE", y.debtor(1, 7), 9);
        due("not one CROSSED OUT", y.debtor(2, 7), 3);
        due("owed", y.shopHas(1), 2 + 9 + 3);
        y.stop(1, 99);
        y.weeks(1);
        due("GONE he is, whatever his STOP", y.debtor(1, 7), 9);
    }

    private static void lent() {
        promise(10);
        term(2, "DEBT is that more, and DEARER twentieths of it (cut);");
        term(0, "All that is divided is cut towards 0,");
        int[][] all = {{0, 40, 40}, {1, 19, 19}, {1, 20, 21}, {1, 39, 40}, {1, 40, 42}, {19, 1, 1}, {20, 1, 2}, {3, 7, 8},
            {3, 6, 6}, {20, 40, 80}, {19, 40, 78}, {10, 3, 4}, {20, 0, 0}};
        for (int[] a : all) {
            SlateShop x = of("f99," + a[0] + ",8;s0," + a[1] + ",99;", 1);
            due("dearer " + a[0] + " for " + a[1], x.debtor(0, 0), a[2]);
        }
        due("of what is taken, not wanted", of("f99,20,8;s0,40,9;", 1).debtor(0, 0), 18);
        due("each week by itself", of("f99,1,8;s0,19,99;", 2).debtor(0, 0), 38);
        due("on top of DEBT", of("f99,10,8;s0,10,99;", 2).debtor(0, 0), 30);
        due("each debtor by himself", of("f99,1,8;s0,10,99;s0,10,99;", 1).shopHas(4), 20);
        term(2, "OWED (to the wholesaler) is more by what was taken, without the twentieths.");
        SlateShop x = of("f99,20,8;s0,40,99;r0,7,5;", 1);
        due("owed", x.shopHas(1), 45);
        x.weeks(1);
        due("and 19 more", x.shopHas(1), 45 + 19);
        due("took", x.debtor(0, 7), 59);
    }

    private static void struck() {
        promise(10);
        term(2, "Then, if there is no strike (else it has a WEEK less),");
        SlateShop x = of("f50,0,8;s9,10,99;g8,9,9;");
        x.strike(2);
        due("none pays", x.weeks(1), 50);
        due("a WEEK less", x.shopHas(2), 1);
        due("he takes", x.debtor(0, 0), 10);
        due("none is gone", x.count(6), 0);
        due("none pays", x.weeks(1), 50);
        due("over", x.shopHas(2), 0);
        due("he pays", x.weeks(1), 59);
        due("not below 0", x.shopHas(2), 0);
        due("gone then", x.count(6), 2);
        SlateShop y = of("f50,0,1;s9,10,99;");
        y.strike(20);
        due("the wholesaler comes in a strike, too", y.weeks(1), 40);
        y.weeks(19);
        due("20 WEEKS are over", y.shopHas(2), 0);
        due("nothing was PAID", y.debtor(0, 6), 0);
        SlateShop z = of("f50,0,8;h9,10,99;");
        z.strike(4);
        z.weeks(7);
        due("the fourth WEEK is lost to him", z.debtor(0, 6), 0);
        z.weeks(1);
        due("not the eighth", z.debtor(0, 6), 9);
    }

    private static void whoPays() {
        promise(10);
        term(2, "each who is not CROSSED OUT, not GONE in order PAYS (the shop SHUT or not); DEBT is that less, CASH that"
            + " more:");
        SlateShop x = of("f99,0,8;s5,20,20;s6,20,20;g60,20,20;", 1);
        due("cash", x.shopHas(0), 99 + 5 + 6);
        due("debt", x.debtor(0, 0), 15);
        due("paid", x.debtor(0, 6), 5);
        x.cross(1, 1);
        x.weeks(1);
        due("each", x.debtor(0, 6), 10);
        due("not one CROSSED OUT", x.debtor(1, 6), 6);
        due("nor DEBT less", x.debtor(1, 0), 14);
        due("not one GONE", x.debtor(2, 6), 0);
        due("cash", x.shopHas(0), 99 + 5 + 6 + 5);
        SlateShop shut = of("f0,0,1;s4,10,99;", 1);
        due("shut", shut.shopHas(3), 1);
        due("he pays all the same", shut.weeks(1), -6 + 4);
        due("and the rest", shut.weeks(1), -2 + 2);
        due("and no more", shut.weeks(1), 0);
        due("DEBT", shut.debtor(0, 0), 0);
    }

    /** What one of a sort and a WAGE PAYS in the first week, in which he takes so much. */
    private static int paid(char sort, int wage, int debt) {
        return of("f99,0,8;" + sort + wage + "," + debt + ",99;", 1).debtor(0, 6);
    }

    /** For each of {WAGE, DEBT, due}. */
    private static void pays(char sort, int[]... all) {
        for (int[] a : all) {
            due(sort + ", wage " + a[0] + ", debt " + a[1], paid(sort, a[0], a[1]), a[2]);
        }
    }

    private static void steady() {
        promise(10);
        term(2, "a steady one WAGE, DEBT at most;");
        pays('s', new int[][] {{9, 8, 8}, {9, 9, 9}, {9, 10, 9}, {0, 9, 0}, {9, 0, 0}, {60, 40, 40}, {1, 1, 1}});
        SlateShop x = of("f99,20,8;s60,40,99;", 1);
        due("DEBT above WANTS", x.debtor(0, 6), 60);
        due("DEBT 20", x.debtor(0, 0), 20);
    }

    private static void rolling() {
        promise(10);
        term(2, "a rolling one half of DEBT (cut), WAGE at most;");
        pays('r', new int[][] {{9, 0, 0}, {9, 1, 0}, {9, 2, 1}, {9, 3, 1}, {9, 17, 8}, {9, 18, 9}, {9, 19, 9}, {9, 20, 9},
            {0, 9, 0}, {60, 39, 19}, {60, 40, 20}});
        SlateShop x = of("f99,0,8;r60,7,7;", 1);
        due("half of 7", x.debtor(0, 0), 4);
        x.stop(0, 0);
        x.weeks(2);
        due("half of 4, half of 2", x.debtor(0, 0), 1);
        x.weeks(3);
        due("half of 1", x.debtor(0, 0), 1);
    }

    private static void hay() {
        promise(10);
        term(2, "one paid for hay as a steady one, but only in each fourth WEEK (WEEK by 4 leaves 3);");
        SlateShop x = of("f99,0,8;h9,40,99;");
        int[] paid = {0, 0, 0, 9, 9, 9, 9, 18, 18, 18, 18, 27};
        for (int week = 0; week < 12; week++) {
            x.weeks(1);
            due("behind WEEK " + week, x.debtor(0, 6), paid[week]);
        }
        int[][] all = {{9, 8, 8}, {9, 9, 9}, {9, 10, 9}, {0, 9, 0}, {60, 0, 0}};
        for (int[] a : all) {
            SlateShop y = of("f99,0,8;h" + a[0] + ",40," + a[1] + ";", 4);
            due("wage " + a[0] + ", debt " + a[1], y.debtor(0, 6), a[2]);
        }
    }

    private static void twice() {
        promise(10);
        term(2, "one who owes twice half of WAGE (cut), DEBT at most;");
        pays('t', new int[][] {{0, 9, 0}, {1, 9, 0}, {2, 9, 1}, {3, 9, 1}, {9, 3, 3}, {9, 4, 4}, {9, 5, 4}, {9, 0, 0},
            {59, 40, 29}, {60, 29, 29}, {60, 30, 30}, {60, 31, 30}});
        SlateShop x = of("f99,0,8;t9,20,20;", 1);
        due("at STOP he pays yet", x.debtor(0, 6), 4);
        due("is not gone", x.count(6), 0);
    }

    private static void rogue() {
        promise(10);
        term(2, "a rogue so, too, but if DEBT is STOP or more (and above 0) he is GONE, PAYS nothing.");
        pays('g', new int[][] {{1, 9, 0}, {2, 9, 1}, {9, 3, 3}, {9, 4, 4}, {9, 5, 4}, {59, 40, 29}});
        // DEARER, WANTS, STOP; whether he is GONE.
        int[][] all = {{0, 20, 21, 0}, {0, 20, 20, 1}, {0, 21, 20, 1}, {20, 10, 21, 0}, {20, 10, 20, 1}, {20, 10, 19, 1},
            {0, 0, 0, 0}, {0, 9, 0, 0}, {0, 1, 1, 1}, {0, 1, 2, 0}, {0, 0, 1, 0}};
        for (int[] a : all) {
            SlateShop x = of("f99," + a[0] + ",8;g60," + a[1] + "," + a[2] + ";", 1);
            String text = "dearer, wants, stop " + a[0] + " " + a[1] + " " + a[2];
            due(text, x.debtor(0, 4), a[3]);
            due(text + " as bits", x.count(6), a[3]);
            int debt = Math.min(a[1], a[2]) * (20 + a[0]) / 20;
            due(text + " pays", x.debtor(0, 6), a[3] == 1 ? 0 : Math.min(30, debt));
            due(text + " owes", x.debtor(0, 0), a[3] == 1 ? debt : Math.max(0, debt - 30));
        }
        SlateShop y = of("f99,0,8;g4,10,99;", 1);
        y.stop(0, 0);
        y.weeks(1);
        due("STOP 0, DEBT 8", y.debtor(0, 4), 1);
        y.stop(0, 99);
        y.weeks(4);
        due("GONE he stays", y.debtor(0, 6), 2);
        SlateShop shut = of("f0,0,1;g4,10,99;", 1);
        shut.stop(0, 8);
        shut.weeks(1);
        due("the shop SHUT, too", shut.debtor(0, 4), 1);
    }

    private static void wholesaler() {
        promise(10);
        term(2, "Then, if WEEK and 1 is a multiple of EVERY, OWED is taken from CASH, and is 0;");
        for (int every = 1; every <= 8; every++) {
            SlateShop x = of("f99,0," + every + ";s0,1,99;");
            for (int week = 0; week < 17; week++) {
                int cash = 99 - (week + 1) / every * every;
                due("cash behind WEEK " + week + ", every " + every, x.weeks(1), cash);
                due("owed", x.shopHas(1), (week + 1) % every);
            }
        }
        SlateShop y = of("f0,0,1;s9,9,9;");
        due("what was PAID in it is there already", y.weeks(1), 0);
        due("so that it is not SHUT", y.shopHas(3), 0);
    }

    private static void shut() {
        promise(10);
        term(2, "if CASH is below 0, the shop is SHUT from then on.");
        due("0 is not below", of("f9,0,1;s0,9,9;", 1).shopHas(3), 0);
        due("-1 is", of("f8,0,1;s0,9,9;", 1).shopHas(3), 1);
        SlateShop x = of("f8,0,2;s0,9,9;", 1);
        due("OWED more than CASH is not", x.shopHas(3), 0);
        x.weeks(1);
        due("till it is taken", x.shopHas(3), 1);
        SlateShop y = of("f0,20,1;h60,10,99;", 3);
        due("shut", y.shopHas(3), 1);
        due("all is PAID, and twice", y.weeks(1), 10);
        due("from then on", y.shopHas(3), 1);
        y.weeks(5);
        due("no more is taken", y.debtor(0, 7), 10);
        due("from then on", y.shopHas(3), 1);
    }

    private static void stop() {
        promise(11);
        sentence("STOP (0 to 99): what it was.");
        range("sum", 0, 99, sum -> of(FIVE).stop(4, sum));
        SlateShop x = of(FIVE);
        due("was", x.stop(4, 0), 21);
        due("is 0", x.debtor(4, 3), 0);
        due("was 0", x.stop(4, 99), 0);
        due("is 99", x.debtor(4, 3), 99);
        due("the others'", x.debtor(3, 3), 20);
        due("acts", x.count(7), 2);
        sentence("BAD.");
        range("debtor", 0, 4, one -> of(FIVE).stop(one, 1));
        range("debtor of six", 0, 5, one -> of(SIX).stop(one, 1));
        due("no shop", new SlateShop().stop(0, 0), BAD);
    }

    private static void strike() {
        promise(12);
        sentence("A strike (0 to 20 WEEKS): how many WEEKS there were left of one.");
        range("n", 0, 20, n -> of(CALM).strike(n));
        SlateShop x = of(CALM);
        due("none", x.strike(20), 0);
        x.weeks(1);
        due("19 left", x.strike(1), 19);
        due("in place of these", x.shopHas(2), 1);
        x.weeks(2);
        due("none left", x.strike(7), 0);
        due("ended", x.strike(0), 7);
        due("none", x.shopHas(2), 0);
        sentence("BAD; STATE: no SHOP (ahead of BAD).");
        due("no shop", new SlateShop().strike(0), STATE);
        due("no shop, 21", new SlateShop().strike(21), STATE);
        due("no shop, -1", new SlateShop().strike(-1), STATE);
    }

    private static void cross() {
        promise(13);
        sentence("One is CROSSED OUT (1), or not any more (0): what is LOST, all together.");
        SlateShop x = of("f99,0,8;s0,10,99;g5,20,20;s3,5,99;", 1);
        due("10, and 20 of the one GONE", x.cross(0, 1), 30);
        due("DEBT stays with him", x.debtor(0, 0), 10);
        due("of one who is both once", x.cross(1, 1), 30);
        due("of all", x.cross(2, 1), 32);
        due("bits", x.count(5), 7);
        x.weeks(3);
        due("as they were then", x.shopHas(5), 32);
        due("not any more", x.cross(0, 0), 22);
        due("DEBT 0", x.debtor(0, 0), 0);
        due("one GONE, too", x.cross(1, 0), 2);
        due("DEBT 0", x.debtor(1, 0), 0);
        due("GONE he is yet", x.debtor(1, 4), 1);
        due("none is lost", x.cross(2, 0), 0);
        x.weeks(1);
        due("he takes anew", x.debtor(0, 0), 10);
        due("took in all", x.debtor(0, 7), 20);
        due("the one GONE does not", x.debtor(1, 7), 20);
        due("nothing is lost of none", of(CALM).cross(0, 1), 0);
    }

    private static void crossRefused() {
        promise(13);
        sentence("BAD; STATE: it is so.");
        range("debtor", 0, 4, one -> of(FIVE).cross(one, 1));
        range("debtor of six", 0, 5, one -> of(SIX).cross(one, 1));
        due("no shop", new SlateShop().cross(0, 1), BAD);
        SlateShop x = of(FIVE);
        bad("on", on -> x.cross(0, on), 2, -1, LEAST, MOST);
        due("not crossed out", x.cross(0, 0), STATE);
        due("crossed out", x.cross(0, 1), 0);
        due("crossed out already", x.cross(0, 1), STATE);
        bad("ahead of STATE, on", on -> x.cross(0, on), 2, -1);
        due("no act of these", x.count(7), 1);
        due("not any more", x.cross(0, 0), 0);
        due("not any more already", x.cross(0, 0), STATE);
    }

    private static void dearer() {
        promise(14);
        sentence("DEARER (0 to 20): what it was.");
        range("n", 0, 20, n -> of(CALM).dearer(n));
        SlateShop x = of("f99,3,8;s0,10,99;");
        due("was", x.dearer(20), 3);
        due("is 20", x.count(2), 20);
        x.weeks(1);
        due("as much again", x.debtor(0, 0), 20);
        due("was 20", x.dearer(0), 20);
        x.weeks(1);
        due("none", x.debtor(0, 0), 30);
        sentence("BAD; STATE: no SHOP (ahead of BAD).");
        due("no shop", new SlateShop().dearer(0), STATE);
        due("no shop, 21", new SlateShop().dearer(21), STATE);
        due("no shop, -1", new SlateShop().dearer(-1), STATE);
    }

    private static void debtor() {
        promise(15);
        sentence("Of one: 0 DEBT, 1 WAGE, 2 WANTS, 3 STOP, 4 whether he is GONE (1, 0), 5 CROSSED OUT, 6 what he PAID so far,"
            + " 7 what he took (without the twentieths).");
        SlateShop x = of("f99,10,8;s7,11,40;g30,31,32;t60,40,99;", 1);
        x.cross(2, 1);
        int[][] all = {{16 - 7, 7, 11, 40, 0, 0, 7, 11}, {46, 30, 31, 32, 1, 0, 0, 31}, {30, 60, 40, 99, 0, 1, 30, 40}};
        for (int one = 0; one < 3; one++) {
            for (int what = 0; what < 8; what++) {
                due("of " + one + " " + what, x.debtor(one, what), all[one][what]);
            }
        }
        x.weeks(1);
        due("so far", x.debtor(0, 6), 14);
        due("took", x.debtor(0, 7), 22);
        x.undo();
        due("so far, undone", x.debtor(0, 6), 7);
        sentence("BAD.");
        range("debtor", 0, 2, one -> x.debtor(one, 0));
        range("debtor of six", 0, 5, one -> of(SIX).debtor(one, 7));
        range("what", 0, 7, what -> x.debtor(0, what));
        due("no shop", new SlateShop().debtor(0, 0), BAD);
    }

    private static void shopHas() {
        promise(16);
        sentence("0 CASH, 1 OWED, 2 WEEKS left of a strike, 3 whether SHUT (1, 0), 4 all DEBTS (of those not CROSSED OUT),"
            + " 5 LOST.");
        SlateShop x = of("f40,0,4;s9,10,20;g5,20,20;s0,15,99;", 1);
        x.strike(6);
        int[] all = {49, 45, 6, 0, 1 + 20 + 15, 20};
        for (int what = 0; what < 6; what++) {
            due("what " + what, x.shopHas(what), all[what]);
        }
        x.cross(2, 1);
        due("without his who is CROSSED OUT", x.shopHas(4), 1 + 20);
        due("his is LOST", x.shopHas(5), 20 + 15);
        x.weeks(3);
        int[] shut = {49 - 45 - 10 - 9, 0, 3, 1, 20 + 20, 35};
        for (int what = 0; what < 6; what++) {
            due("shut, what " + what, x.shopHas(what), shut[what]);
        }
        term(3, "LOST: DEBTS of those GONE, and of those who are CROSSED OUT now as they were then, added (of one who is both"
            + " once).");
        due("of a new shop", of(FIVE).shopHas(5), 0);
        due("of one GONE", of("f99,0,8;g9,7,7;s0,9,9;", 1).shopHas(5), 7);
        SlateShop y = of("f99,0,8;g9,7,7;s2,9,9;", 1);
        y.cross(0, 1);
        due("both once", y.shopHas(5), 7);
        due("no DEBTS of his", y.shopHas(4), 7);
        y.cross(1, 1);
        y.weeks(8);
        due("as they were then", y.shopHas(5), 7 + 7);
        y.cross(1, 0);
        due("who are CROSSED OUT now", y.shopHas(5), 7);
        sentence("BAD; STATE: no SHOP (ahead of BAD).");
        range("what", 0, 5, what -> x.shopHas(what));
        due("no shop", new SlateShop().shopHas(0), STATE);
        due("no shop, 6", new SlateShop().shopHas(6), STATE);
        due("no shop, -1", new SlateShop().shopHas(-1), STATE);
    }

    private static void leaves() {
        term(0, "What is refused, or found, changes nothing but status().");
        promise(10);
        Seen.stays("0 weeks", BAD, x -> x.weeks(0));
        Seen.stays("25 weeks", BAD, x -> x.weeks(25));
        promise(11);
        Seen.stays("STOP 100", BAD, x -> x.stop(0, 100));
        Seen.stays("STOP of no one", BAD, x -> x.stop(4, 9));
        promise(12);
        Seen.stays("strike of 21", BAD, x -> x.strike(21));
        promise(13);
        Seen.stays("crossed out by 2", BAD, x -> x.cross(0, 2));
        Seen.stays("no one crossed out", BAD, x -> x.cross(4, 1));
        Seen.stays("crossed out again", STATE, x -> x.cross(1, 1));
        Seen.stays("not crossed out", STATE, x -> x.cross(0, 0));
        promise(14);
        Seen.stays("DEARER 21", BAD, x -> x.dearer(21));
        promise(15);
        Seen.stays("what 8 of one", BAD, x -> x.debtor(0, 8));
        promise(16);
        Seen.stays("what 6 of all", BAD, x -> x.shopHas(6));
    }
}
