/** The sentences of the promises 31 to 36: kinds, asks, the trace, counts, and what was found. */
final class AskedSentences extends Held {
    static void all() {
        kind();
        as();
        sizes();
        marks();
        ask();
        trace();
        count();
        statusFound();
        statusStays();
    }

    private static void kind() {
        promise(31);
        sentence("The KIND of a DEBTOR, as told (1 to 5).");
        SlateShop x = of(FIVE);
        for (int one = 0; one < 5; one++) {
            due("kind of " + one, x.kind(one), one + 1);
        }
        x.rogue(0, 9, 0);
        x.as(1, 0);
        due("as told, whatever he is taken as", x.kind(0) * 10 + x.kind(1), 12);
        sentence("BAD.");
        range("debtor", 0, 4, one -> x.kind(one));
        range("debtor of six", 0, 5, one -> of(SIX).kind(one));
        due("no shop", new SlateShop().kind(0), BAD);
        term(0, "What is refused, or found, changes nothing but status().");
        Seen.stays("no one", BAD, y -> y.kind(4));
        promise(32);
        Seen.stays("as 6", BAD, y -> y.as(0, 6));
        Seen.stays("a steady one as a rogue", KIND, y -> y.as(0, 5));
        promise(33);
        Seen.stays("what 2", BAD, y -> y.ask(0, 2));
        Seen.stays("no one", BAD, y -> y.ask(4, 0));
        promise(34);
        Seen.stays("number -1", NONE, y -> y.trace(-1));
        promise(35);
        Seen.stays("what 9", BAD, y -> y.count(9));
    }

    private static void as() {
        promise(32);
        sentence("A DEBTOR is taken as one of a KIND (0 .. 5): the DEBTOR's number.");
        term(3, "KINDS of DEBTORS: 0 DEBTOR; 1 STEADY, a DEBTOR; 2 ROLLING, a STEADY one; 3 HAY, a STEADY one; 4 TWICE, a"
            + " DEBTOR; 5 ROGUE, a TWICE. By this it is asked.");
        SlateShop x = of(FIVE);
        String[] such = {"110000", "111000", "110100", "100010", "100011"};
        for (int one = 0; one < 5; one++) {
            for (int kind = 0; kind <= 5; kind++) {
                due(one + " as " + kind, x.as(one, kind), such[one].charAt(kind) == '1' ? one : KIND);
            }
        }
        sentence("BAD; KIND: it is no such one.");
        range("kind of a rogue", 0, 5, kind -> of(FIVE).as(4, kind));
        range("debtor", 0, 4, one -> of(FIVE).as(one, 0));
        range("debtor of six", 0, 5, one -> of(SIX).as(one, 1));
        due("no shop", new SlateShop().as(0, 0), BAD);
        due("as 5", x.as(0, 5), KIND);
        due("BAD ahead of KIND", x.as(0, 6), BAD);
    }

    private static void traced(SlateShop x, int... bodies) {
        for (int i = 0; i < bodies.length; i++) {
            due("trace " + i, x.trace(i), bodies[i]);
        }
        due("no more", x.trace(bodies.length), NONE);
    }

    private static void sizes() {
        promise(33);
        term(4, "0 SIZE: 10 lent to all DEBTORS: DEBT. 11 of STEADY ones: what 10 gives, and MARK. 12 of ROLLING ones: 0 less"
            + " what 11 gives. 13 of those who owe TWICE: what 10 gives, less 100. 14 of ROGUES: twice what 13 gives (asked"
            + " once).");
        SlateShop x = of(FIVE, 1);
        // DEBTS 11 11 20 16 16, wages 9, numbers 0 1 2 3 4.
        due("of a steady one", x.ask(0, 0), 11 + 0 + 9);
        traced(x, 11, 10, 21, 20);
        due("of a rolling one", x.ask(1, 0), -(11 + 2 * (1 + 9)));
        traced(x, 12, 11, 10, 24, 21, 20);
        due("of one paid for hay", x.ask(2, 0), 20 + 2 + 9 - 1000);
        traced(x, 11, 10, 22, 21, 20);
        due("of one who owes twice", x.ask(3, 0), 16 - 100);
        traced(x, 13, 10);
        due("of a rogue", x.ask(4, 0), 2 * (16 - 100));
        traced(x, 14, 13, 10);
    }

    private static void marks() {
        promise(33);
        term(4, "1 MARK: 20 lent to all DEBTORS: the number. 21 of STEADY ones: what 20 gives, and WAGE. 22 of HAY ones: what"
            + " 21 gives, less 1000. 23 of those who owe TWICE: what 20 gives, less SIZE. 24 of ROLLING ones: twice what 21"
            + " gives (asked once).");
        term(4, "(Of an ask the BODY told for the KIND begins, else that of the nearest KIND that it is, too, else the one"
            + " that is lent; SIZE, MARK within others are asked of the same DEBTOR anew.)");
        SlateShop x = of(FIVE, 1);
        due("of a steady one", x.ask(0, 1), 0 + 9);
        traced(x, 21, 20);
        due("of a rolling one", x.ask(1, 1), 2 * (1 + 9));
        traced(x, 24, 21, 20);
        due("of one paid for hay", x.ask(2, 1), 2 + 9 - 1000);
        traced(x, 22, 21, 20);
        due("of one who owes twice", x.ask(3, 1), 3 - (16 - 100));
        traced(x, 23, 20, 13, 10);
        due("of a rogue", x.ask(4, 1), 4 - 2 * (16 - 100));
        traced(x, 23, 20, 14, 13, 10);
        SlateShop none = of("f0,0,1;s0,0,0;");
        due("nothing owed, no wage, number 0", none.ask(0, 0), 0);
        due("nothing owed, no wage, number 0", none.ask(0, 1), 0);
        SlateShop six = of("f0,0,1;s0,0,0;s0,0,0;s0,0,0;s0,0,0;s0,0,0;r60,0,0;");
        due("the sixth", six.ask(5, 1), 2 * (5 + 60));
        due("the sixth's size", six.ask(5, 0), -2 * (5 + 60));
        SlateShop gone = of("f99,0,8;g9,9,9;s9,20,20;", 1);
        due("one GONE", gone.ask(0, 0), 2 * (9 - 100));
        gone.cross(1, 1);
        due("one CROSSED OUT", gone.ask(1, 0), 11 + 1 + 9);
    }

    private static void ask() {
        promise(33);
        sentence("An ASK (0, 1) of a DEBTOR. BAD.");
        SlateShop x = of(FIVE);
        range("what", 0, 1, what -> x.ask(0, what));
        range("debtor", 0, 4, one -> x.ask(one, 0));
        range("debtor of six", 0, 5, one -> of(SIX).ask(one, 1));
        due("no shop", new SlateShop().ask(0, 0), BAD);
        due("no shop, what 2", new SlateShop().ask(0, 2), BAD);
        sentence("THE TRACE is empty ahead of it (where that is refused it stays).");
        x.ask(1, 0);
        traced(x, 12, 11, 10, 24, 21, 20);
        x.ask(3, 0);
        traced(x, 13, 10);
        due("refused", x.ask(5, 0), BAD);
        traced(x, 13, 10);
        due("refused", x.ask(0, 2), BAD);
        traced(x, 13, 10);
        x.ask(0, 1);
        traced(x, 21, 20);
    }

    private static void trace() {
        promise(34);
        sentence("Number i of THE TRACE; NONE.");
        SlateShop x = of(FIVE);
        due("none yet", x.trace(0), NONE);
        x.ask(1, 0);
        due("the first", x.trace(0), 12);
        due("the last", x.trace(5), 20);
        for (int i : new int[] {-1, 6, 15, 16, 17, LEAST, MOST}) {
            due("number " + i, x.trace(i), NONE);
        }
        x.weeks(1);
        tell(x, STEADY);
        x.shop();
        x.as(0, 5);
        x.kind(0);
        due("only an ask empties it", x.trace(0), 12);
        term(4, "ASKS of DEBTORS, by BODIES, each of which leaves its number in THE TRACE as it begins (the first 16):");
        x.ask(0, 1);
        traced(x, 21, 20);
        due("as it begins: 21 is ahead of the 20 that it asks", x.trace(0) * 100 + x.trace(1), 2120);
        // No ask leaves more than six.
        due("number 15", x.trace(15), NONE);
        due("no shop", new SlateShop().trace(0), NONE);
    }

    private static void count() {
        promise(35);
        sentence("How many: 0 ROWS, 1 DEBTORS, 2 DEARER, 3 EVERY, 4 WEEK, 5 those CROSSED OUT (bits), 6 those GONE (bits), 7"
            + " ACTS that can be undone, 8 bytes on the tape.");
        SlateShop x = of("f99,3,7;s0,0,0;g9,9,9;g9,9,9;s0,0,0;g9,9,9;g9,9,9;");
        x.row(2, 0, 0);
        x.row(5, 0, 1);
        x.row(5, 1, 1);
        x.cross(3, 1);
        x.cross(0, 1);
        x.cross(5, 1);
        x.weeks(2);
        x.feed('f');
        int[] all = {2, 6, 3, 7, 2, 1 + 8 + 32, 2 + 4 + 16, 5, 1};
        for (int what = 0; what < 9; what++) {
            due("what " + what, x.count(what), all[what]);
        }
        x.cross(1, 1);
        due("both CROSSED OUT and GONE", x.count(5) & x.count(6), 2);
        x.cross(1, 0);
        due("GONE yet", x.count(6), 2 + 4 + 16);
        sentence("BAD.");
        range("what", 0, 8, what -> x.count(what));
        range("what, no shop", 0, 8, what -> new SlateShop().count(what));
    }

    private static void statusFound() {
        promise(36);
        sentence("Of the latest call with a ROW, or as(), that was not BAD, STATE, FULL: the number of its FINDING; 0: it had"
            + " none, or there was none.");
        SlateShop x = of(STEADY);
        due("there was none", x.status(), 0);
        due("SIZE", x.row(0, 0, -1), SIZE);
        due("row found", x.status(), 4);
        x.row(0, 0, 2);
        due("row", x.status(), 0);
        x.set(1, 0, 0);
        due("set found", x.status(), 1);
        x.set(0, 0, 0);
        due("set", x.status(), 0);
        x.set(0, 2, 0);
        due("set found", x.status(), 2);
        x.copy(0, 0, 0, 1, 1);
        due("copy", x.status(), 0);
        x.row(1, 1, 2);
        x.copy(0, 0, 1, 1, 1);
        due("copy found", x.status(), 5);
        x.copy(0, 0, 0, 0, 0);
        due("copy of none", x.status(), 0);
        x.copy(0, 0, 0, 0, 9);
        due("copy found", x.status(), 2);
        x.copy(9 - 2, 0, 0, 0, 0);
        due("copy found", x.status(), 1);
        x.drop(1);
        due("drop", x.status(), 0);
        x.drop(1);
        due("drop found", x.status(), 1);
        x.as(0, 1);
        due("as", x.status(), 0);
        x.as(0, 5);
        due("as found", x.status(), 3);
        x.who(0, 0, 0, 1);
        due("who", x.status(), 0);
        x.who(0, 0, 2, 1);
        due("who found", x.status(), 2);
        x.who(0, 1, 0, 1);
        due("who found", x.status(), 1);
    }

    private static void statusStays() {
        promise(36);
        sentence("that was not BAD, STATE, FULL:");
        SlateShop x = of(STEADY);
        x.row(0, 0, -1);
        long refused = 0;
        long[] bad = {x.row(0, 0, 41), x.row(8, 0, 0), x.set(9, 0, 0), x.copy(9, 0, 0, 0, 0), x.copy(0, 0, 9, 0, 0),
            x.drop(-1), x.as(9, 0), x.as(0, 6), x.who(0, 0, 0, 0), x.who(1, 0, 0, 1), x.who(0, 8, 0, 1)};
        for (long answer : bad) {
            refused += answer == BAD ? 1 : 0;
        }
        due("all are BAD", refused, bad.length);
        due("BAD leaves it", x.status(), 4);
        due("STATE", x.undo(), STATE);
        due("STATE leaves it", x.status(), 4);
        x.weeks(1);
        x.stop(0, 1);
        tell(x, "q");
        x.ask(0, 0);
        x.status();
        due("calls without a ROW leave it", x.status(), 4);
        x.row(0, 0, 1);
        x.weeks(0);
        x.drop(9);
        due("BAD leaves 0, too", x.status(), 0);
    }
}
