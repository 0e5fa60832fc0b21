import java.util.function.ToLongFunction;

/** The sentences of the promises 17 to 30: what is foretold, and the images. */
final class ForetoldSentences extends Held {
    static void all() {
        ahead();
        debt();
        shuts();
        bestStop();
        bestStopRefused();
        whom();
        whomOfSeveral();
        whomNone();
        stands();
        dear();
        rogue();
        rogueRefused();
        who();
        whoElse();
        whoRefused();
        atDoor();
        pays();
        paysRefused();
        drawn();
        drawnRefused();
        image();
        restore();
        leaves();
        leavesRefused();
    }

    private static void ahead() {
        promise(17);
        term(3, "AHEAD by n WEEKS (0 to 60): CASH, OWED, DEBT of one; all DEBTS.");
        range("n", 0, 60, n -> of(STEADY).ahead(n, 0));
        SlateShop x = of(STEADY);
        int[][] all = {{0, 10, 0, 0}, {1, 19, 10, 1}, {3, 37, 30, 3}, {4, 6, 0, 4}, {11, 29, 30, 11}, {12, -1, 0, 11},
            {13, 8, 0, 2}, {14, 10, 0, 0}, {60, 10, 0, 0}};
        for (int[] a : all) {
            for (int what = 0; what <= 2; what++) {
                due(a[0] + " weeks, " + what, x.ahead(a[0], what), a[what + 1]);
            }
        }
        SlateShop y = of("f99,0,8;s0,1,40;g0,5,5;s0,3,30;", 1);
        y.cross(2, 1);
        due("of those not CROSSED OUT, now", y.ahead(0, 2), 1 + 5);
        due("of those not CROSSED OUT, then", y.ahead(9, 2), 10 + 5);
        sentence("AHEAD: CASH (what = 0), OWED (1), all DEBTS (2).");
        due("CASH", y.ahead(0, 0), y.shopHas(0));
        due("OWED", y.ahead(0, 1), y.shopHas(1));
        due("all DEBTS", y.ahead(0, 2), y.shopHas(4));
        due("CASH, the wholesaler come", y.ahead(7, 0), 99 - 9 - 7);
        SlateShop z = of(CALM, 999);
        due("beyond WEEK 999", z.ahead(60, 0), 99);
        SlateShop first = of("f99,0,8;s0,1,40;s0,3,30;", 1);
        first.cross(0, 1);
        due("the first CROSSED OUT", first.ahead(1, 2), 6);
        sentence("BAD; STATE: no SHOP (ahead of BAD).");
        range("what", 0, 2, what -> x.ahead(0, what));
        due("no shop", new SlateShop().ahead(0, 0), STATE);
        due("no shop, 61", new SlateShop().ahead(61, 0), STATE);
        due("no shop, what 3", new SlateShop().ahead(0, 3), STATE);
    }

    private static void debt() {
        promise(18);
        sentence("AHEAD: DEBT of one.");
        SlateShop x = of(STEADY);
        int[][] all = {{0, 0}, {1, 1}, {7, 7}, {11, 11}, {12, 11}, {13, 2}, {14, 0}, {60, 0}};
        for (int[] a : all) {
            due(a[0] + " weeks", x.debt(0, a[0]), a[1]);
        }
        SlateShop y = of("f99,0,8;s0,3,99;s0,5,99;h0,7,99;", 1);
        y.cross(1, 1);
        due("his who is CROSSED OUT stays", y.debt(1, 60), 5);
        due("the last one's", y.debt(2, 2), 21);
        due("stopped", y.debt(2, 60), 99);
        sentence("BAD.");
        range("n", 0, 60, n -> x.debt(0, n));
        range("debtor", 0, 2, one -> y.debt(one, 0));
        range("debtor of six", 0, 5, one -> of(SIX).debt(one, 60));
        due("no shop", new SlateShop().debt(0, 0), BAD);
    }

    /** A shop of so much cash that loses 1 a week, as its wholesaler comes each week. */
    private static SlateShop slow(int cash) {
        return of("f" + cash + ",0,1;s0,1,99;");
    }

    private static void shuts() {
        promise(19);
        term(3, "SHUTS: behind how many WEEKS (1 to 60) it is SHUT first; NONE; 0: it is.");
        SlateShop x = slow(59);
        due("60", x.shuts(), 60);
        x.weeks(24);
        due("36 now", x.shuts(), 36);
        x.weeks(24);
        x.weeks(11);
        due("1", x.shuts(), 1);
        due("CASH is 0", x.shopHas(0), 0);
        x.weeks(1);
        due("it is", x.shuts(), 0);
        due("61 are too far", slow(60).shuts(), NONE);
        due("the first", slow(0).shuts(), 1);
        due("the first, though CASH is not below 0 later", of("f0,20,1;h60,10,99;").shuts(), 1);
        due("never", of("f0,0,1;s9,9,9;").shuts(), NONE);
        due("when the wholesaler comes", of("f0,0,8;s0,1,1;").shuts(), 8);
        sentence("SHUTS; NONE. STATE: no SHOP.");
        due("12", of(STEADY).shuts(), 12);
        due("NONE", of(CALM).shuts(), NONE);
        due("no shop", new SlateShop().shuts(), STATE);
    }

    private static void bestStop() {
        promise(20);
        term(3, "BEST STOP of one for n WEEKS (1 to 60): the sum (0 to 99) by which CASH less OWED is most then, of several"
            + " the least; how much that is.");
        SlateShop x = of("f10,20,8;s9,10,20;");
        // Stopped at s he takes s, owes 2s, and PAYS 9 a week: 8 for 4, or 9 for 5.
        due("1 week: the least of 4 and 5", x.bestStop(0, 1, 0), 4);
        due("how much", x.bestStop(0, 1, 1), 10 + 4);
        // 9 for 5, then 9 for 4; or 9 and 9 for 9.
        due("2 weeks: the least of 5 and 9", x.bestStop(0, 2, 0), 5);
        due("how much", x.bestStop(0, 2, 1), 10 + 9);
        due("60 weeks", x.bestStop(0, 60, 0), 5);
        due("60 weeks, how much", x.bestStop(0, 60, 1), 10 + 30 * 9);
        SlateShop none = of("f10,0,8;s60,5,20;");
        due("all the same", none.bestStop(0, 5, 0), 0);
        due("all the same, how much", none.bestStop(0, 5, 1), 10);
        // In a strike of 9 weeks he takes 51 if he is stopped at 99, and in 11 of the 12 behind it 16 each; PAYS twice that.
        SlateShop most = of("f70,20,8;s59,16,8;");
        most.strike(9);
        due("99", most.bestStop(0, 21, 0), 99);
        due("99, how much", most.bestStop(0, 21, 1), 70 + 51 + 11 * 16);
        SlateShop two = of("f0,20,8;s0,9,9;s60,40,0;");
        due("of one alone", two.bestStop(1, 1, 0), 30);
        due("of one alone, how much", two.bestStop(1, 1, 1), 60 - 30 - 9);
        SlateShop less = of("f99,0,8;s5,10,99;");
        due("CASH less OWED, not CASH", less.bestStop(0, 1, 0), 0);
        due("how much", less.bestStop(0, 1, 1), 99);
        SlateShop below = of("f0,0,1;t0,40,99;s0,3,3;");
        due("below 0", below.bestStop(0, 9, 0), 0);
        due("below 0, how much", below.bestStop(0, 9, 1), -3);
    }

    private static void bestStopRefused() {
        promise(20);
        sentence("BEST STOP: which (what = 0), how much (1).");
        SlateShop x = of("f10,20,8;s9,10,20;");
        due("which", x.bestStop(0, 1, 0), 4);
        due("how much", x.bestStop(0, 1, 1), 14);
        sentence("BAD.");
        range("n", 1, 60, n -> x.bestStop(0, n, 0));
        range("what", 0, 1, what -> x.bestStop(0, 1, what));
        range("debtor", 0, 0, one -> x.bestStop(one, 1, 0));
        range("debtor of six", 0, 5, one -> of(SIX).bestStop(one, 1, 1));
        due("no shop", new SlateShop().bestStop(0, 1, 0), BAD);
        SlateShop y = of("f99,0,8;g9,9,9;s9,9,9;", 1);
        y.cross(1, 1);
        due("one GONE, none is better", y.bestStop(0, 9, 0), 0);
        due("one CROSSED OUT, none is better", y.bestStop(1, 9, 0), 0);
    }

    private static void whom() {
        promise(21);
        term(3, "WHOM for n WEEKS (1 to 60): debtors (a set) whose STOP is as it is, all others' 0: that by which CASH less"
            + " OWED is most then, and it is not SHUT, of several the fewest, then the least bits; how much; NONE.");
        term(0, "Sets are bits.");
        SlateShop x = of("f30,10,8;s0,10,99;s30,10,99;t60,10,99;s0,0,99;g60,10,9;");
        // The first never PAYS, the fourth takes nothing, the rogue is GONE. The two PAY 15 a week for 10.
        due("1 and 2", x.whom(8, 0), 2 + 4);
        due("how much", x.whom(8, 1), 30 + 2 * 8 * 5);
        due("60 weeks", x.whom(60, 0), 2 + 4);
        due("60 weeks, how much", x.whom(60, 1), 30 + 2 * 60 * 5);
        SlateShop six = of("f99,20,8;s9,1,9;s9,1,9;s9,1,9;s9,1,9;s9,1,9;s9,1,9;");
        due("all six", six.whom(1, 0), 63);
        due("all six, how much", six.whom(1, 1), 99 + 6);
        due("the sixth alone", of("f99,20,8;s0,1,9;s0,1,9;s0,1,9;s0,1,9;s0,1,9;s9,1,9;").whom(1, 0), 32);
        SlateShop less = of("f50,0,8;s5,10,99;");
        due("nobody: CASH less OWED", less.whom(1, 0), 0);
        due("nobody, how much", less.whom(1, 1), 50);
        due("STOP as it is", of("f50,20,8;s60,40,7;").whom(1, 1), 57);
        // A rogue who owes is GONE if he is stopped at 0; kept, he PAYS 20 of 20 and takes 10 more.
        SlateShop rogue = of("f99,0,8;g60,10,50;");
        rogue.strike(1);
        rogue.weeks(1);
        due("all others' STOP is 0", rogue.whom(1, 0), 1);
        due("how much", rogue.whom(1, 1), 99);
    }

    private static void whomOfSeveral() {
        promise(21);
        term(3, "of several the fewest, then the least bits;");
        due("nobody gains", of("f30,0,8;s60,10,99;s60,10,99;").whom(8, 0), 0);
        // Each PAYS twice what he takes, but in the fourth week; the wholesaler comes in the first.
        SlateShop one = of("f5,20,1;h60,3,3;h60,3,3;");
        due("the least bits of one", one.whom(4, 0), 1);
        due("how much", one.whom(4, 1), 5 + 3);
        SlateShop two = of("f6,20,1;h60,3,3;h60,3,3;h60,3,3;");
        due("the least bits of two", two.whom(4, 0), 3);
        due("how much", two.whom(4, 1), 6 + 6);
        SlateShop fewest = of("f6,20,1;h60,3,3;h60,3,3;h60,6,6;");
        due("the fewest, though of more bits", fewest.whom(4, 0), 4);
        due("how much", fewest.whom(4, 1), 6 + 6);
        due("the most, though not the fewest", of("f6,20,1;h60,3,3;h60,3,3;h60,5,5;").whom(4, 0), 3);
        due("not SHUT by CASH 0", of("f6,20,1;h60,3,3;h60,3,3;").whom(4, 0), 3);
    }

    private static void whomNone() {
        promise(21);
        sentence("WHOM: which (what = 0), how much (1); NONE.");
        SlateShop shut = of("f1,0,1;s0,9,99;", 1);
        due("SHUT", shut.whom(1, 0), NONE);
        due("SHUT, how much", shut.whom(1, 1), NONE);
        SlateShop owed = of("f1,0,2;s0,9,99;", 1);
        due("OWED already", owed.whom(1, 0), NONE);
        due("OWED already, how much", owed.whom(60, 1), NONE);
        due("nobody is a set, too", of("f1,0,2;s0,9,99;").whom(60, 0), 0);
        due("nobody, how much", of("f0,0,1;s0,9,99;").whom(60, 1), 0);
        sentence("BAD; STATE: no SHOP (ahead of BAD).");
        SlateShop x = of(STEADY);
        range("n", 1, 60, n -> x.whom(n, 0));
        range("what", 0, 1, what -> x.whom(1, what));
        due("no shop", new SlateShop().whom(1, 0), STATE);
        due("no shop, 0 weeks", new SlateShop().whom(0, 0), STATE);
        due("no shop, what 2", new SlateShop().whom(1, 2), STATE);
    }

    private static void stands() {
        promise(22);
        term(3, "STANDS: the longest strike from now on (0 to 20 WEEKS) with which it is not SHUT in the next 40 WEEKS; NONE:"
            + " not even with 0.");
        // The wholesaler takes 10 a week of 35; then nobody's 10 is there in the fourth.
        SlateShop x = of("f35,0,1;s10,10,99;");
        due("3", x.stands(), 3);
        x.strike(9);
        due("from now on, in place of what is left", x.stands(), 3);
        x.weeks(1);
        due("of 25", x.stands(), 2);
        due("0", of("f9,0,1;s10,10,99;").stands(), 0);
        due("CASH 0 in the first", of("f10,0,1;s10,10,99;").stands(), 1);
        due("19", of("f95,0,1;s5,5,99;").stands(), 19);
        due("20", of("f95,0,1;s5,5,95;").stands(), 20);
        due("20 at most", of(CALM).stands(), 20);
        due("not even with 0", of("f5,0,1;s0,10,99;").stands(), NONE);
        due("SHUT behind 40", slow(39).stands(), NONE);
        due("SHUT behind 41", slow(40).stands(), 20);
        due("it is SHUT", of("f1,0,1;s0,9,99;", 1).stands(), NONE);
        sentence("STANDS; NONE. STATE: no SHOP.");
        due("NONE", slow(0).stands(), NONE);
        due("no shop", new SlateShop().stands(), STATE);
    }

    private static void dear() {
        promise(23);
        term(3, "DEAR: the least DEARER (0 to 20) by which it is not SHUT in n WEEKS; NONE.");
        // 20 lent, 20 and d owed, half of it PAID: 10 and half of d against 20.
        due("20", of("f0,0,1;r60,20,20;").dear(1), 20);
        due("10, 5 are there", of("f5,7,1;r60,20,20;").dear(1), 10);
        due("0", of("f0,7,1;s60,20,20;").dear(60), 0);
        due("0 is enough in 1 week", slow(1).dear(1), 0);
        due("not in 2", of("f1,9,1;s0,1,99;").dear(2), NONE);
        due("NONE, not even 20", of("f0,0,1;s0,20,99;").dear(1), NONE);
        // By 20 he owes 2 a week more, and is stopped before.
        due("SHUT in the 60th by 0 to 19", slow(59).dear(60), 20);
        due("SHUT in the 61st", slow(60).dear(60), 0);
        // By 4 to 9 there is enough; by 10 the rogue owes 6 and is GONE.
        due("the least, though 10 shuts it", of("f8,0,1;g40,4,6;r60,20,20;").dear(1), 4);
        SlateShop shut = of("f0,20,1;s60,20,20;h0,30,99;", 1);
        due("it is SHUT", shut.dear(1), NONE);
        sentence("DEAR (1 to 60 WEEKS); NONE. BAD; STATE: no SHOP (ahead of BAD).");
        range("n", 1, 60, n -> of(CALM).dear(n));
        due("no shop", new SlateShop().dear(1), STATE);
        due("no shop, 0 weeks", new SlateShop().dear(0), STATE);
        due("no shop, 61 weeks", new SlateShop().dear(61), STATE);
    }

    private static void rogue() {
        promise(24);
        term(3, "ROGUE: for one (whatever he is) and n WEEKS: the sum (0 to 99) he should be STOPPED at, were he a rogue, so"
            + " that what he takes (without the twentieths) less what he PAYS is most for him, of several the least; how"
            + " much.");
        for (char sort : "srhtg".toCharArray()) {
            SlateShop x = of("f99,0,8;" + sort + "9,10,20;");
            due(sort + ", 1 week", x.rogue(0, 1, 0), 10);
            due(sort + ", 1 week, how much", x.rogue(0, 1, 1), 10);
            // Stopped at 16: he takes 10, PAYS 4, takes 10 more, owes 16, and is GONE.
            due(sort + ", 2 weeks", x.rogue(0, 2, 0), 16);
            due(sort + ", 2 weeks, how much", x.rogue(0, 2, 1), 20 - 4);
        }
        SlateShop none = of("f99,0,8;h9,0,50;");
        due("the least of all", none.rogue(0, 60, 0), 0);
        due("nothing", none.rogue(0, 60, 1), 0);
        SlateShop twentieths = of("f99,20,8;s9,10,20;");
        due("without the twentieths", twentieths.rogue(0, 1, 0), 10);
        due("without the twentieths, how much", twentieths.rogue(0, 1, 1), 10);
        SlateShop other = of("f99,0,8;s9,40,20;h2,33,0;r60,40,99;");
        due("of the second", other.rogue(1, 2, 0), 65);
        due("of the second, how much", other.rogue(1, 2, 1), 66 - 1);
        other.strike(3);
        due("99", other.rogue(2, 3, 0), 99);
        due("99, how much", other.rogue(2, 3, 1), 99);
        SlateShop later = of("f99,0,8;s4,10,20;", 2);
        // He owes 12; 10 more at 22 is as much as he can take, and at 22 he is GONE.
        due("in these n WEEKS alone", later.rogue(0, 1, 1), 10);
        due("stopped at what he owes then", later.rogue(0, 1, 0), 22);
        SlateShop shut = of("f0,0,1;s4,10,20;", 1);
        due("SHUT, he takes nothing; GONE at 0 he PAYS nothing", shut.rogue(0, 9, 1), 0);
        due("the least", shut.rogue(0, 9, 0), 0);
    }

    private static void rogueRefused() {
        promise(24);
        sentence("ROGUE (1 to 60 WEEKS): which (what = 0), how much (1).");
        SlateShop x = of("f99,0,8;s9,10,20;g9,10,5;s0,1,9;");
        range("n", 1, 60, n -> x.rogue(0, n, 0));
        due("which", x.rogue(0, 2, 0), 16);
        due("how much", x.rogue(0, 3, 1), 30 - 8);
        sentence("BAD; STATE: he is CROSSED OUT, GONE.");
        range("what", 0, 1, what -> x.rogue(0, 1, what));
        range("debtor", 0, 2, one -> x.rogue(one, 1, 0));
        range("debtor of six", 0, 5, one -> of(SIX).rogue(one, 1, 0));
        due("no shop", new SlateShop().rogue(0, 1, 0), BAD);
        x.weeks(1);
        x.cross(2, 1);
        due("GONE", x.rogue(1, 1, 0), STATE);
        due("CROSSED OUT", x.rogue(2, 1, 1), STATE);
        due("BAD ahead of STATE, n", x.rogue(1, 61, 0), BAD);
        due("BAD ahead of STATE, n 0", x.rogue(2, 0, 0), BAD);
        due("BAD ahead of STATE, what", x.rogue(2, 1, 2), BAD);
        x.cross(2, 0);
        due("not any more", x.rogue(2, 1, 1), 1);
        x.cross(1, 1);
        x.cross(1, 0);
        due("GONE he is yet", x.rogue(1, 1, 0), STATE);
    }

    /** Makes a row of ints of these items. */
    private static void told(SlateShop x, int row, int... items) {
        x.row(row, 2, items.length);
        for (int i = 0; i < items.length; i++) {
            x.set(row, i, items[i]);
        }
    }

    private static void who() {
        promise(25);
        term(3, "WHO: a row tells what one PAID in each of n WEEKS (1 to 12) from now on: KINDS (bits 1 to 5) by which he"
            + " would PAY so, all else as it is.");
        SlateShop x = of(FIVE);
        told(x, 0, 9);
        told(x, 1, 4);
        told(x, 2, 0);
        for (int one = 0; one < 5; one++) {
            due("9, of " + one, x.who(one, 0, 0, 1), 2 + 4);
            due("4, of " + one, x.who(one, 1, 0, 1), one == 4 ? 16 + 32 : 16);
            due("0, of " + one, x.who(one, 2, 0, 1), one == 4 ? 8 : 8 + 32);
        }
        SlateShop calm = of(CALM);
        calm.row(0, 0, 40);
        due("12 weeks", calm.who(0, 0, 0, 12), 62);
        calm.set(0, 11, 1);
        due("the twelfth", calm.who(0, 0, 0, 12), 0);
        due("eleven", calm.who(0, 0, 0, 11), 62);
        due("1 week", calm.who(0, 0, 11, 1), 0);
        due("from 12 on", calm.who(0, 0, 12, 12), 62);
        for (int item : new int[] {-1, 1, 256, 65536, MOST, LEAST}) {
            told(calm, 1, item);
            due("never PAID " + item, calm.who(0, 1, 0, 1), 0);
        }
        SlateShop four = of("f99,0,8;h5,9,20;");
        told(four, 0, 0, 0, 0, 5, 0, 0, 0, 5, 0, 0, 0, 5);
        due("hay in the fourth, eighth, twelfth", four.who(0, 0, 0, 12), 8);
        // Stopped at 20 a rogue PAYS 2 of 9, 2 of 16, and owes 20 at last; one who owes twice goes on.
        told(four, 1, 2, 2, 0);
        due("a rogue, GONE", four.who(0, 1, 0, 3), 32);
        told(four, 1, 2, 2, 2);
        due("one who owes twice", four.who(0, 1, 0, 3), 16);
        due("both PAY so in two", four.who(0, 1, 0, 2), 48);
    }

    private static void whoElse() {
        promise(25);
        term(3, "from now on: KINDS (bits 1 to 5) by which he would PAY so, all else as it is.");
        SlateShop x = of("f99,0,8;s5,9,20;s5,9,20;", 3);
        told(x, 0, 5);
        due("in WEEK 3 hay, too", x.who(1, 0, 0, 1), 2 + 4 + 8);
        told(x, 1, 5, 0);
        due("in WEEK 4 not any more: hay alone", x.who(1, 1, 0, 2), 8);
        x.strike(2);
        told(x, 2, 0, 0, 5);
        due("the strike that is left", x.who(1, 2, 0, 3), 2 + 4);
        due("in it nobody PAYS", x.who(1, 2, 0, 2), 62);
        x.cross(1, 1);
        due("CROSSED OUT nobody PAYS", x.who(1, 2, 0, 1), 62);
        due("nor then", x.who(1, 2, 0, 3), 0);
        due("the other does", x.who(0, 2, 0, 3), 2 + 4);
        SlateShop gone = of("f99,0,8;g9,9,9;", 1);
        told(gone, 0, 0, 0, 0, 0);
        due("GONE nobody PAYS", gone.who(0, 0, 0, 4), 62);
        SlateShop shut = of("f0,0,1;t4,9,20;", 1);
        told(shut, 0, 2, 2, 2, 1, 0);
        due("SHUT he PAYS the 7 he owes", shut.who(0, 0, 0, 5), 16 + 32);
    }

    private static void whoRefused() {
        promise(25);
        sentence("WHO, n ITEMS of a ROW from i on.");
        SlateShop x = of("f50,0,8;s9,20,20;r9,20,20;");
        told(x, 0, 7, 0, 9, 0);
        due("from 2 on 1", x.who(0, 0, 2, 1), 2 + 4);
        due("from 1 on 1", x.who(0, 0, 1, 1), 8 + 32);
        due("from 2 on 2", x.who(0, 0, 2, 2), 0);
        sentence("BAD: DEBTOR, ROW, n; NULL; PLACE.");
        for (int row = 1; row < 8; row++) {
            x.row(row, row % 3, 14);
        }
        range("debtor", 0, 1, one -> x.who(one, 0, 0, 1));
        range("row", 0, 7, row -> x.who(0, row, 0, 1));
        range("n", 1, 12, n -> x.who(0, 1, 0, n));
        range("debtor of six", 0, 5, one -> {
            SlateShop six = of(SIX);
            six.row(0, 0, 1);
            return six.who(one, 0, 0, 1);
        });
        due("no shop", new SlateShop().who(0, 0, 0, 1), BAD);
        due("to the end", x.who(0, 1, 2, 12) >= 0);
        due("beyond the end", x.who(0, 1, 3, 12), PLACE);
        due("at the end", x.who(0, 1, 14, 1), PLACE);
        due("the last", x.who(0, 1, 13, 1) >= 0);
        for (int i : new int[] {-1, 15, LEAST, MOST, MOST - 1, MOST - 11}) {
            due("place " + i, x.who(0, 1, i, 12), PLACE);
        }
        x.row(2, 0, 0);
        due("of a row of none", x.who(0, 2, 0, 1), PLACE);
        x.drop(3);
        due("missing", x.who(0, 3, 0, 1), NULL);
        due("missing ahead of place", x.who(0, 3, -1, 1), NULL);
        due("BAD debtor ahead of missing", x.who(2, 3, 0, 1), BAD);
        due("BAD n ahead of missing", x.who(0, 3, 0, 13), BAD);
        due("BAD n ahead of place", x.who(0, 1, -1, 0), BAD);
    }

    private static void atDoor() {
        promise(26);
        term(3, "DOOR: debtors by DEBT, the most first, of like ones by numbers: the k-th (of those not CROSSED OUT, not"
            + " GONE).");
        SlateShop x = of("f99,0,8;s0,5,99;s0,9,99;g0,9,9;s0,9,99;s0,1,99;s0,30,99;", 1);
        x.cross(5, 1);
        int[] order = {1, 3, 0, 4, NONE, NONE};
        for (int k = 0; k < 6; k++) {
            due("the " + k, x.atDoor(k), order[k]);
        }
        SlateShop like = of(SIX);
        SlateShop more = of(SIX, 1);
        for (int k = 0; k < 6; k++) {
            due("of like ones the " + k, like.atDoor(k), k);
            due("the most first, the " + k, more.atDoor(k), 5 - k);
        }
        due("1 more", of("f99,0,8;s0,8,99;s0,9,99;", 1).atDoor(0), 1);
        sentence("DOOR: the k-th (0 on); NONE: no such one.");
        SlateShop one = of("f99,0,8;s0,8,99;", 1);
        due("the one", one.atDoor(0), 0);
        due("no second", one.atDoor(1), NONE);
        one.cross(0, 1);
        due("no one", one.atDoor(0), NONE);
        sentence("BAD: k not 0 to 5; STATE: no SHOP (ahead of BAD).");
        range("k", 0, 5, k -> x.atDoor(k));
        due("5 of one is not BAD", one.atDoor(5), NONE);
        due("no shop", new SlateShop().atDoor(0), STATE);
        due("no shop, 6", new SlateShop().atDoor(6), STATE);
        due("no shop, -1", new SlateShop().atDoor(-1), STATE);
    }

    private static void fraction(SlateShop x, int p, int k, long above, long below) {
        due(p + " of 10, " + k + " above", x.pays(p, k, 0), above);
        due(p + " of 10, " + k + " below", x.pays(p, k, 1), below);
    }

    private static void pays() {
        promise(27);
        term(3, "PAY by p of 10 (0 to 10): each of those who are not CROSSED OUT, not GONE PAYS in p of 10 cases, apart: how"
            + " likely k of them, or more, do: a fraction.");
        term(0, "but fractions, told as two numbers in lowest terms (0 is 0 by 1).");
        SlateShop x = of(SIX);
        fraction(x, 5, 0, 1, 1);
        fraction(x, 5, 1, 63, 64);
        fraction(x, 5, 3, 21, 32);
        fraction(x, 5, 6, 1, 64);
        fraction(x, 3, 6, 729, 1000000);
        fraction(x, 3, 1, 882351, 1000000);
        fraction(x, 9, 6, 531441, 1000000);
        fraction(x, 1, 6, 1, 1000000);
        fraction(x, 1, 5, 11, 200000);
        fraction(x, 0, 0, 1, 1);
        fraction(x, 0, 1, 0, 1);
        fraction(x, 0, 6, 0, 1);
        fraction(x, 10, 0, 1, 1);
        fraction(x, 10, 6, 1, 1);
        SlateShop y = of("f99,0,8;s0,0,0;g9,9,9;s0,0,0;", 1);
        fraction(y, 2, 2, 1, 25);
        fraction(y, 2, 1, 9, 25);
        y.cross(0, 1);
        fraction(y, 2, 1, 1, 5);
        fraction(y, 4, 1, 2, 5);
        fraction(y, 2, 0, 1, 1);
    }

    private static void paysRefused() {
        promise(27);
        sentence("PAY (k 0 to how many there are that are not CROSSED OUT, not GONE): above (what = 0), below (1).");
        SlateShop x = of("f99,0,8;s0,0,0;g9,9,9;s0,0,0;");
        range("k of three", 0, 3, k -> x.pays(5, k, 0));
        x.weeks(1);
        range("k, one GONE", 0, 2, k -> x.pays(5, k, 0));
        x.cross(0, 1);
        range("k, one CROSSED OUT", 0, 1, k -> x.pays(5, k, 0));
        x.cross(2, 1);
        range("k of none", 0, 0, k -> x.pays(5, k, 0));
        fraction(x, 5, 0, 1, 1);
        fraction(x, 0, 0, 1, 1);
        range("k of six", 0, 6, k -> of(SIX).pays(10, k, 1));
        sentence("BAD; STATE: no SHOP (ahead of BAD).");
        range("p", 0, 10, p -> x.pays(p, 0, 0));
        range("what", 0, 1, what -> x.pays(5, 0, what));
        due("no shop", new SlateShop().pays(0, 0, 0), STATE);
        due("no shop, p 11", new SlateShop().pays(11, 0, 0), STATE);
        due("no shop, k 1", new SlateShop().pays(0, 1, 0), STATE);
        due("no shop, what 2", new SlateShop().pays(0, 0, 2), STATE);
    }

    private static void drawn() {
        promise(28);
        term(3, "WEEKS of n (0 to 60) by a SEED (X at first): ahead of each X becomes the rest of (X times 16807) by"
            + " 2147483647; if X by 10 leaves 0, and there is none, a strike of 1 more WEEKS than the rest of X by 5 begins;"
            + " CASH then; in how many of these nobody PAID anything.");
        // He takes 1 each week and PAYS all that he owes: only in a strike nobody PAYS.
        SlateShop x = of("f99,0,8;s60,1,99;");
        // 10 becomes 168070, then 677268843, 1194115201, 1259501992, ...: 0 is left in 0, 6, 13, 14, 17, 19, 26, 33, 45, 59.
        int[][] all = {{0, 10, 99, 0}, {1, 10, 99, 1}, {2, 10, 101, 1}, {6, 10, 105, 1}, {7, 10, 105, 2}, {60, 10, 102, 10},
            // 1 becomes 16807: 0 is left in 4, 10, 18, 24, 34, 55, 58.
            {4, 1, 103, 0}, {5, 1, 103, 1}, {60, 1, 103, 7},
            // 999999 becomes 1774597664, beyond an int on the way: 0 is left in 11, 12, 30, 45, 51.
            {1, 999999, 100, 0}, {11, 999999, 102, 0}, {12, 999999, 102, 1}, {60, 999999, 103, 5}, {0, 999999, 99, 0},
            // 999997 and 127781 leave 0 at once, 999998 does in 5 first.
            {1, 999997, 99, 1}, {1, 127781, 99, 1}, {5, 999998, 104, 0}, {6, 999998, 104, 1}};
        for (int[] a : all) {
            String text = a[0] + " by " + a[1];
            due(text + ", CASH", x.drawn(a[0], a[1], 0), a[2]);
            due(text + ", nobody PAID", x.drawn(a[0], a[1], 1), a[3]);
        }
        x.strike(2);
        due("there is one: it stays as it is", x.drawn(3, 10, 1), 2);
        due("CASH behind it", x.drawn(3, 10, 0), 102);
        SlateShop none = of("f9,0,8;s0,9,99;h9,9,99;");
        due("no strike, but nobody PAID", none.drawn(3, 1, 1), 3);
        due("the hay is PAID", none.drawn(4, 1, 1), 3);
        due("one of three PAYS", of("f9,0,8;s0,9,99;s9,9,99;s0,9,99;").drawn(3, 1, 1), 0);
        SlateShop gone = of("f9,0,8;g9,9,9;");
        due("GONE nobody PAYS", gone.drawn(60, 1, 1), 60);
    }

    private static void drawnRefused() {
        promise(28);
        sentence("WEEKS by a SEED (1 to 999999): CASH (what = 0), how many (1).");
        SlateShop x = of(STEADY);
        range("seed", 1, 999999, seed -> x.drawn(1, seed, 0));
        range("n", 0, 60, n -> x.drawn(n, 1, 0));
        sentence("BAD; STATE: no SHOP (ahead of BAD).");
        range("what", 0, 1, what -> x.drawn(1, 1, what));
        due("no shop", new SlateShop().drawn(0, 1, 0), STATE);
        due("no shop, 61", new SlateShop().drawn(61, 1, 0), STATE);
        due("no shop, seed 0", new SlateShop().drawn(0, 0, 0), STATE);
        due("no shop, what 2", new SlateShop().drawn(0, 1, 2), STATE);
    }

    private static void image() {
        promise(29);
        sentence("An IMAGE (0, 1) is kept of the SHOP: 1.");
        range("k", 0, 1, k -> of(CALM).image(k));
        SlateShop x = of(STEADY);
        due("0", x.image(0), 1);
        x.weeks(3);
        due("1", x.image(1), 1);
        due("no act, no week", x.count(7) * 10 + x.count(4), 33);
        x.weeks(3);
        due("of 0", x.restore(0) * 100 + x.count(4), 100);
        due("of 1", x.restore(1) * 100 + x.count(4), 103);
        due("0 anew", x.image(0), 1);
        due("in place of the one before", x.restore(0) * 100 + x.count(4), 103);
        sentence("BAD; STATE: no SHOP.");
        bad("no shop, k", k -> new SlateShop().image(k), 2, -1, LEAST, MOST);
        due("no shop", new SlateShop().image(0), STATE);
        due("no shop, 1", new SlateShop().image(1), STATE);
    }

    private static void restore() {
        promise(30);
        sentence("The SHOP is as an IMAGE kept it (no ACT can be undone then): 1.");
        SlateShop x = of("f50,4,2;g20,30,25;s5,10,40;", 1);
        x.cross(1, 1);
        x.strike(5);
        x.image(1);
        tell(x, STEADY);
        x.weeks(2);
        for (int time = 0; time < 2; time++) {
            due("1", x.restore(1), 1);
            due("no act", x.undo(), STATE);
            int[] counts = {0, 2, 4, 2, 1, 2, 1, 0, 0};
            for (int what = 0; what < 9; what++) {
                due("count " + what, x.count(what), counts[what]);
            }
            int[] has = {55, 35, 5, 0, 30, 37};
            for (int what = 0; what < 6; what++) {
                due("has " + what, x.shopHas(what), has[what]);
            }
            int[] second = {7, 5, 10, 40, 0, 1, 5, 10};
            for (int what = 0; what < 8; what++) {
                due("the second " + what, x.debtor(1, what), second[what]);
            }
            due("kind", x.kind(0), 5);
            x.cross(1, 0);
            x.dearer(9);
            x.weeks(2);
        }
        SlateShop shut = of("f0,0,1;s0,9,99;");
        shut.image(0);
        shut.weeks(1);
        shut.image(1);
        shut.restore(0);
        due("not SHUT", shut.shopHas(3), 0);
        shut.restore(1);
        due("SHUT", shut.shopHas(3), 1);
        sentence("BAD; STATE: none was kept.");
        due("none", of(CALM).restore(0), STATE);
        bad("none, k", k -> of(CALM).restore(k), 2, -1, LEAST, MOST);
        due("not the other", x.restore(0), STATE);
        due("no shop, none", new SlateShop().restore(1), STATE);
        bad("no shop, k", k -> new SlateShop().restore(k), 2, -1);
    }

    /** Whatever the call answers, it changes nothing. */
    private static void only(String what, ToLongFunction<SlateShop> call) {
        Seen.stays(what, call.applyAsLong(Seen.full()), call);
    }

    private static void leaves() {
        promise(17);
        term(3, "FORETOLD (nothing changes).");
        only("ahead", x -> x.ahead(60, 0));
        promise(18);
        only("debt", x -> x.debt(3, 60));
        promise(19);
        only("shuts", x -> x.shuts());
        promise(20);
        only("bestStop", x -> x.bestStop(0, 60, 0));
        promise(21);
        only("whom", x -> x.whom(60, 0));
        promise(22);
        only("stands", x -> x.stands());
        promise(23);
        only("dear", x -> x.dear(60));
        promise(24);
        only("rogue", x -> x.rogue(0, 60, 0));
        promise(25);
        only("who", x -> x.who(0, 0, 0, 12));
        promise(26);
        only("atDoor", x -> x.atDoor(0));
        promise(27);
        only("pays", x -> x.pays(5, 1, 1));
        promise(28);
        only("drawn", x -> x.drawn(60, 10, 0));
    }

    private static void leavesRefused() {
        term(0, "What is refused, or found, changes nothing but status().");
        promise(17);
        Seen.stays("61 weeks", BAD, x -> x.ahead(61, 0));
        promise(18);
        Seen.stays("61 weeks", BAD, x -> x.debt(0, 61));
        promise(20);
        Seen.stays("0 weeks", BAD, x -> x.bestStop(0, 0, 0));
        promise(21);
        Seen.stays("0 weeks", BAD, x -> x.whom(0, 0));
        promise(23);
        Seen.stays("0 weeks", BAD, x -> x.dear(0));
        promise(24);
        Seen.stays("0 weeks", BAD, x -> x.rogue(0, 0, 0));
        Seen.stays("CROSSED OUT", STATE, x -> x.rogue(1, 1, 0));
        promise(25);
        Seen.stays("13 weeks", BAD, x -> x.who(0, 0, 0, 13));
        Seen.stays("a missing row", NULL, x -> x.who(0, 5, 0, 1));
        Seen.stays("beyond the end", PLACE, x -> x.who(0, 0, 1, 12));
        promise(26);
        Seen.stays("the 6th", BAD, x -> x.atDoor(6));
        promise(27);
        Seen.stays("11 of 10", BAD, x -> x.pays(11, 0, 0));
        promise(28);
        Seen.stays("seed 0", BAD, x -> x.drawn(1, 0, 0));
        promise(29);
        Seen.stays("image 2", BAD, x -> x.image(2));
        promise(30);
        Seen.stays("image 2", BAD, x -> x.restore(2));
    }
}
