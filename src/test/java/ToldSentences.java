/** The sentences of the promises 6 to 9: the tape, its reading, its faults, and what is undone. */
final class ToldSentences extends Held {
    private static final String LAW = "f1,1,1;";
    private static final String TWO = "f50,20,2;s5,10,40;h6,7,8;";
    private static final String FULL_SHOP = "f99,20,8;s60,40,99;r60,40,99;h60,40,99;t60,40,99;g60,40,99;s60,40,99;";

    static void all() {
        feed();
        read();
        tokens();
        law();
        debtors();
        inPlace();
        faultOne();
        faultTwo();
        faultThree();
        firstFault();
        refused();
        fault();
        undo();
        kept();
        acts();
    }

    /** The text has this fault there, first of all. */
    private static void faulty(String text, int place, int number) {
        SlateShop x = new SlateShop();
        due("place in " + text, tell(x, text), -1000100 - place);
        due("fault of " + text, x.fault(), number);
    }

    private static void feed() {
        promise(6);
        sentence("A byte (0 to 255) comes behind the tape: how many it has.");
        range("byte", 0, 255, letter -> new SlateShop().feed(letter));
        SlateShop x = new SlateShop();
        due("0", x.feed(0), 1);
        due("255", x.feed(255), 2);
        due("has", x.count(8), 2);
        due("bad is none", x.feed(256), BAD);
        due("has no more", x.count(8), 2);
        term(1, "TEXTS: THE TAPE has at most 120 bytes, that come one by one;");
        for (int i = 3; i <= 120; i++) {
            due("byte " + i, x.feed('f'), i);
        }
        due("the 121st", x.feed('f'), FULL);
        due("the 121st again", x.feed('f'), FULL);
        due("has", x.count(8), 120);
        sentence("BAD; FULL.");
        due("BAD ahead of FULL", x.feed(256), BAD);
        due("BAD ahead of FULL, below", x.feed(-1), BAD);
        x.shop();
        due("read, it is full no more", x.feed('f'), 1);
        x.shop();
        Seen.stays("byte 256", BAD, y -> y.feed(256));
        Seen.stays("byte -1", BAD, y -> y.feed(-1));
        String filled = FULL_SHOP + "z".repeat(120 - FULL_SHOP.length());
        for (int i = 0; i < 120; i++) {
            x.feed(filled.charAt(i));
        }
        due("the 121st", x.feed('f'), FULL);
        due("it is nowhere", x.shop(), -1000100 - FULL_SHOP.length());
    }

    private static void read() {
        promise(7);
        sentence("The tape, empty then, is read: how many DEBTORS there are.");
        SlateShop x = of(CALM);
        due("empty", x.count(8), 0);
        due("none is told", x.shop(), -1000100);
        due("of FIVE", tell(x, FIVE), 5);
        due("so many", x.count(1), 5);
        due("nothing of the one before", tell(x, TWO), 2);
        due("so many", x.count(1), 2);
        tell(x, "f1");
        due("empty behind a fault, too", x.count(8), 0);
        due("nothing of the faulty one", tell(x, FIVE), 5);
        faulty(FULL_SHOP + "z".repeat(120 - FULL_SHOP.length()), 69, 1);
    }

    private static void tokens() {
        promise(7);
        term(1, "TOKENS: letters a to z (each by itself), NUMBERS (figures, 2 at most), SIGNS , and ; nothing else.");
        String text = "f11,11,1;s11,11,11;";
        for (int place : new int[] {0, 3, 6, 8, 9, 12, 15, 18}) {
            for (int letter = 0; letter <= 255; letter++) {
                boolean figure = letter >= '0' && letter <= '9';
                boolean sort = place == 9 && "srhtg".indexOf(letter) >= 0;
                if (letter != text.charAt(place) && !figure && !sort) {
                    faulty(text.substring(0, place) + (char) letter + text.substring(place + 1), place, 1);
                }
            }
        }
        for (int place : new int[] {1, 4, 7, 10, 13, 16}) {
            for (int letter : new int[] {0, '\n', ' ', '+', ',', '-', '.', '/', ':', ';', 'A', 'a', 'f', 176, 177, 255}) {
                faulty(text.substring(0, place) + (char) letter + text.substring(place + 1), place, 1);
            }
        }
        due("one figure", of("f1,1,1;s1,1,1;").debtor(0, 1), 1);
        due("two figures", of("f01,01,01;s01,01,01;").debtor(0, 1), 1);
        due("two noughts", of("f00,00,01;s00,00,00;").debtor(0, 1), 0);
        faulty("f001,1,1;s1,1,1;", 1, 1);
        faulty("ff1,1,1;s1,1,1;", 1, 1);
        faulty("f1,1,1;ss1,1,1;", 8, 1);
        faulty("f1,1,1;sr1,1,1;", 8, 1);
        faulty("f1,,1,1;s1,1,1;", 3, 1);
        faulty("f1,1,1;;s1,1,1;", 7, 1);
        faulty("f1 1,1,1;s1,1,1;", 2, 1);
    }

    private static void law() {
        promise(7);
        term(1, "shop: law debtor { debtor }. law: f CASH , DEARER , EVERY ; (0 to 99; 0 to 20; 1 to 8).");
        faulty(LAW, 7, 1);
        due("one", of(LAW + "s1,1,1;").count(1), 1);
        due("two", of(LAW + "s1,1,1;s1,1,1;").count(1), 2);
        faulty("s1,1,1;", 0, 1);
        faulty(LAW + LAW + "s1,1,1;", 7, 1);
        faulty(LAW + "s1,1,1;" + LAW, 14, 1);
        SlateShop least = of("f0,0,1;s1,1,1;");
        due("CASH 0", least.shopHas(0), 0);
        due("DEARER 0", least.count(2), 0);
        due("EVERY 1", least.count(3), 1);
        SlateShop most = of("f99,20,8;s1,1,1;");
        due("CASH 99", most.shopHas(0), 99);
        due("DEARER 20", most.count(2), 20);
        due("EVERY 8", most.count(3), 8);
        faulty("f100,1,1;s1,1,1;", 1, 1);
        faulty("f1,21,1;s1,1,1;", 3, 2);
        faulty("f1,1,9;s1,1,1;", 5, 2);
        faulty("f1,1,0;s1,1,1;", 5, 2);
    }

    private static void debtors() {
        promise(7);
        term(1, "debtor: SORT WAGE , WANTS , STOP ; (SORT: s a steady one, r a rolling one, h one paid for hay, t one who"
            + " owes twice, g a rogue; 0 to 60; 0 to 40; 0 to 99; DEBTORS 0 .. 5, 6 at most).");
        SlateShop x = of(FIVE);
        for (int one = 0; one < 5; one++) {
            due("sort " + one, x.kind(one), one + 1);
        }
        SlateShop least = of("f1,1,1;s0,0,0;");
        SlateShop most = of(FULL_SHOP);
        int[] all = {60, 40, 99};
        for (int what = 1; what <= 3; what++) {
            due("least " + what, least.debtor(0, what), 0);
            due("most " + what, most.debtor(0, what), all[what - 1]);
            due("most of the sixth " + what, most.debtor(5, what), all[what - 1]);
        }
        due("six", most.count(1), 6);
        due("no seventh", most.debtor(6, 0), BAD);
        faulty(LAW + "s61,1,1;", 8, 2);
        faulty(LAW + "s1,41,1;", 10, 2);
        faulty(LAW + "s1,1,100;", 12, 1);
        due("99", of(LAW + "s1,1,99;").debtor(0, 3), 99);
        faulty(LAW + "s60,40,99;t61,1,1;", 18, 2);
        faulty(LAW + "s60,40,99;t60,41,1;", 21, 2);
    }

    private static void inPlace() {
        promise(7);
        term(1, "A SHOP that is read stands in place of the one before (none at first): WEEK 0; no DEBTS, nothing OWED, no"
            + " strike, nobody CROSSED OUT or GONE; no ACT can be undone; IMAGES and ROWS stay.");
        SlateShop x = of("f0,20,8;g20,30,25;s5,10,40;s5,10,40;h60,40,99;", 1);
        x.row(5, 0, 3);
        x.image(1);
        x.cross(1, 1);
        x.strike(9);
        x.weeks(2);
        due("gone before", x.count(6), 1);
        // What is foretold of the one before must not stay, either.
        due("foretold, SHUT", x.shuts(), 5);
        due("foretold, the rogue's DEBT", x.debt(0, 1), 50);
        due("read", tell(x, "f7,3,5;s9,8,7;s6,5,4;s3,2,1;"), 3);
        int[] counts = {1, 3, 3, 5, 0, 0, 0, 0, 0};
        for (int what = 0; what < 9; what++) {
            due("count " + what, x.count(what), counts[what]);
        }
        int[] has = {7, 0, 0, 0, 0, 0};
        for (int what = 0; what < 6; what++) {
            due("has " + what, x.shopHas(what), has[what]);
        }
        for (int one = 0; one < 3; one++) {
            int[] all = {0, 9 - 3 * one, 8 - 3 * one, 7 - 3 * one, 0, 0, 0, 0};
            for (int what = 0; what < 8; what++) {
                due("debtor " + one + " " + what, x.debtor(one, what), all[what]);
            }
        }
        due("no debtor of the one before", x.debtor(3, 0), BAD);
        due("no act", x.undo(), STATE);
        due("the row stays", x.drop(5), 3);
        due("the image stays", x.restore(1), 1);
        due("it is of the one before", x.count(1), 4);
        x = of("f0,0,1;s0,9,99;", 1);
        due("shut before", x.shopHas(3), 1);
        tell(x, "f0,0,1;s0,9,99;");
        due("not shut", x.shopHas(3), 0);
    }

    private static void faultOne() {
        promise(7);
        term(1, "1 it cannot stand there, or is none (a run of three figures or more, at its first; the end: how many bytes"
            + " there are);");
        for (int end = 0; end < FULL_SHOP.length(); end++) {
            if (end < 19 || (end - 9) % 10 != 0) {
                faulty(FULL_SHOP.substring(0, end), end, 1);
            }
        }
        for (int end = 19; end <= FULL_SHOP.length(); end += 10) {
            due("no fault at " + end, of(FULL_SHOP.substring(0, end)).count(1), (end - 9) / 10);
        }
        faulty("f12", 3, 1);
        faulty("f123", 1, 1);
        faulty("f000,1,1;s1,1,1;", 1, 1);
        faulty("f1234567,1,1;s1,1,1;", 1, 1);
        faulty("f4294967297,1,1;s1,1,1;", 1, 1);
        faulty("f18446744073709551617,1,1;s1,1,1;", 1, 1);
        faulty("f1,1,1;s1,001,1;", 10, 1);
        faulty("123", 0, 1);
        faulty(LAW + "100", 7, 1);
        faulty(LAW + "12", 7, 1);
        faulty("f1,1,1s1,1,1;", 6, 1);
        faulty("f1,1,1,s1,1,1;", 6, 1);
        faulty("f1;1,1;s1,1,1;", 2, 1);
        faulty("F1,1,1;s1,1,1;", 0, 1);
        faulty("", 0, 1);
        faulty("1".repeat(120), 0, 1);
        faulty("f" + "1".repeat(119), 1, 1);
    }

    private static void faultTwo() {
        promise(7);
        term(1, "2 a NUMBER that is not as told;");
        faulty("f1,21,1;s1,1,1;", 3, 2);
        faulty("f1,99,1;s1,1,1;", 3, 2);
        faulty("f1,1,00;s1,1,1;", 5, 2);
        faulty("f1,1,10;s1,1,1;", 5, 2);
        faulty("f1,1,09;s1,1,1;", 5, 2);
        faulty("f1,21", 3, 2);
        faulty("f1,1,0", 5, 2);
        faulty(LAW + "s99,1,1;", 8, 2);
        faulty(LAW + "g1,99,1;", 10, 2);
        due("20", of("f1,20,1;s1,1,1;").count(2), 20);
        due("8", of("f1,1,08;s1,1,1;").count(3), 8);
    }

    private static void faultThree() {
        promise(7);
        term(1, "3 a debtor more than there is room for (its letter).");
        for (char sort : "srhtg".toCharArray()) {
            faulty(FULL_SHOP + sort, 69, 3);
            faulty(FULL_SHOP + sort + "1,1,1;", 69, 3);
        }
        faulty(FULL_SHOP + "s99,99,999", 69, 3);
        due("six have room", of(FULL_SHOP).count(1), 6);
    }

    private static void firstFault() {
        promise(7);
        term(1, "FAULTS, the first TOKEN that has one (its first byte), of one TOKEN the least:");
        faulty("f1,21,9;s1,1,1;", 3, 2);
        faulty("f1,21,1;q", 3, 2);
        faulty("f1,1,9;s61,1,1;", 5, 2);
        faulty("f1;21,1;s1,1,1;", 2, 1);
        faulty(LAW + "s1,41,100;", 10, 2);
        faulty(LAW + "s1,1,1;q1,99,1;", 14, 1);
        faulty("f1,100,1;s1,1,1;", 3, 1);
        faulty("f1,1,999;s1,1,1;", 5, 1);
        faulty("f1,1,000;s1,1,1;", 5, 1);
        faulty(FULL_SHOP + "f1,1,1;", 69, 1);
        faulty(FULL_SHOP + "q", 69, 1);
        faulty(FULL_SHOP + "1", 69, 1);
        faulty(FULL_SHOP + "111", 69, 1);
        faulty(FULL_SHOP + ";", 69, 1);
        faulty("f1,1,8;s61,1,1;" + FULL_SHOP, 8, 2);
    }

    private static void refused() {
        promise(7);
        sentence("-1000100 less the place of a FAULT: all but the tape, and what fault() tells, stays.");
        String[] texts = {"", "f", "f1,21,1;", "f9,9,8;s9,9,9;r9,9,9", FULL_SHOP + "s1,1,1;"};
        int[] places = {0, 1, 3, 20, 69};
        for (int i = 0; i < texts.length; i++) {
            SlateShop x = Seen.full();
            x.shop();
            x.as(0, 5);
            due("place", tell(x, texts[i]), -1000100 - places[i]);
            due("the tape is empty", x.count(8), 0);
            due("what was found stays", x.status(), 3);
            // The tape and what fault() tells become what they were: then nothing is another.
            due("fault 1 again", x.shop(), -1000100);
            x.feed('f');
            x.feed('1');
            due("all else stays", Seen.of(x).equals(Seen.of(Seen.full())));
        }
    }

    private static void fault() {
        promise(8);
        sentence("The number of the latest FAULT; 0 before one.");
        SlateShop x = new SlateShop();
        due("none", x.fault(), 0);
        tell(x, CALM);
        due("none yet", x.fault(), 0);
        x.shop();
        due("1", x.fault(), 1);
        tell(x, "f1,21,1;");
        due("2", x.fault(), 2);
        tell(x, FULL_SHOP + "s");
        due("3", x.fault(), 3);
        tell(x, CALM);
        due("a text of none leaves it", x.fault(), 3);
        x.weeks(0);
        due("what is refused leaves it", x.fault(), 3);
        tell(x, "q");
        due("the latest", x.fault(), 1);
    }

    private static void undo() {
        promise(9);
        sentence("The latest ACT is undone: how many can be undone yet.");
        SlateShop x = of(TWO);
        x.stop(0, 1);
        x.stop(0, 2);
        x.stop(0, 3);
        due("two", x.undo(), 2);
        due("the latest", x.debtor(0, 3), 2);
        due("one", x.undo(), 1);
        x.stop(0, 4);
        due("one, the newer is undone", x.undo(), 1);
        due("back to 1", x.debtor(0, 3), 1);
        due("none", x.undo(), 0);
        due("as it was", x.debtor(0, 3), 40);
        sentence("STATE: none.");
        due("none", x.undo(), STATE);
        due("again", x.undo(), STATE);
        due("no shop", new SlateShop().undo(), STATE);
        due("a shop just read", of(TWO).undo(), STATE);
        Seen.staysOf("none", STATE, y -> y.undo(), y -> y.restore(0));
    }

    private static void kept() {
        promise(9);
        term(2, "ACTS (24 at most are kept, of more the oldest is forgotten; each can be undone, the latest first;");
        SlateShop x = of(CALM);
        for (int sum = 1; sum <= 24; sum++) {
            x.stop(0, sum);
            due("kept", x.count(7), sum);
        }
        for (int sum = 23; sum >= 0; sum--) {
            due("left", x.undo(), sum);
            due("the latest first", x.debtor(0, 3), sum);
        }
        for (int sum = 1; sum <= 25; sum++) {
            x.stop(0, sum);
        }
        due("of 25", x.count(7), 24);
        for (int left = 23; left >= 0; left--) {
            due("left", x.undo(), left);
            due("the latest first", x.debtor(0, 3), left + 1);
        }
        due("the oldest is forgotten", x.undo(), STATE);
        due("so it stays", x.debtor(0, 3), 1);
        for (int sum = 1; sum <= 60; sum++) {
            x.stop(0, sum);
        }
        for (int left = 23; left >= 0; left--) {
            x.undo();
        }
        due("of 60 the latest 24", x.debtor(0, 3), 36);
        due("no more", x.count(7), 0);
        term(2, "also such by which nothing becomes another):");
        SlateShop y = of(TWO);
        y.stop(0, 40);
        y.strike(0);
        y.dearer(20);
        due("three", y.count(7), 3);
        due("two left", y.undo(), 2);
        due("one left", y.undo(), 1);
        due("none left", y.undo(), 0);
        due("no act is it to be refused", y.stop(0, 100) + y.strike(21) + y.dearer(21) + y.weeks(0), 4 * BAD);
        y.cross(0, 0);
        due("nor to be found so", y.count(7), 0);
    }

    private static void acts() {
        promise(9);
        term(2, "a WEEK; STOP of one is another sum; a strike of so many WEEKS (in place of what is left); one is CROSSED"
            + " OUT (dead; DEBT is LOST), or not any more (DEBT 0); DEARER is another one.");
        SlateShop x = of("f50,20,2;g5,10,15;s5,10,40;", 1);
        // The rogue owes 20 at 15: he is gone. The other owes 20 less 5.
        due("gone", x.count(6), 1);
        x.strike(9);
        x.strike(3);
        x.cross(1, 1);
        x.cross(1, 0);
        x.dearer(7);
        due("six acts", x.count(7), 6);
        due("DEBT 0", x.debtor(1, 0), 0);
        due("DEARER undone", x.undo(), 5);
        due("20 again", x.count(2), 20);
        due("not any more undone", x.undo(), 4);
        due("crossed out", x.count(5), 2);
        due("DEBT as it was", x.debtor(1, 0), 15);
        due("LOST", x.shopHas(5), 35);
        due("crossed out undone", x.undo(), 3);
        due("nobody is", x.count(5), 0);
        due("LOST of the gone one", x.shopHas(5), 20);
        due("strike undone", x.undo(), 2);
        due("the one before", x.shopHas(2), 9);
        due("strike undone", x.undo(), 1);
        due("none", x.shopHas(2), 0);
        due("WEEK undone", x.undo(), 0);
        int[] counts = {0, 2, 20, 2, 0, 0, 0, 0, 0};
        for (int what = 0; what < 9; what++) {
            due("count " + what, x.count(what), counts[what]);
        }
        int[] has = {50, 0, 0, 0, 0, 0};
        for (int what = 0; what < 6; what++) {
            due("has " + what, x.shopHas(what), has[what]);
        }
        due("PAID", x.debtor(1, 6), 0);
        due("took", x.debtor(0, 7), 0);
        due("not gone", x.debtor(0, 4), 0);
        x = of("f0,0,1;s0,9,99;", 1);
        due("shut", x.shopHas(3), 1);
        x.undo();
        due("not shut", x.shopHas(3), 0);
        x.strike(5);
        x.weeks(2);
        x.undo();
        due("a week of the strike is back", x.shopHas(2), 4);
        due("the wholesaler is back", x.shopHas(0), -9);
    }
}
