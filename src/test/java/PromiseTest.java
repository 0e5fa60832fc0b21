/** Each promise by itself: ordinary inputs, the edges that the document names, wrong inputs. */
public final class PromiseTest {
    private static final int NONE = -1000000, BAD = -1000001, STATE = -1000002, FULL = -1000003;
    private static final int NULL = -1000011, PLACE = -1000012, KIND = -1000013, SIZE = -1000014, STORE = -1000015;
    private static final int LEAST = Integer.MIN_VALUE, MOST = Integer.MAX_VALUE;

    /** Owes 1 more each week, takes 9 in week 11, and the shop is shut behind 12. */
    private static final String STEADY = "f10,0,4;s9,10,20;";
    /** One of each kind, s r h t g, who takes once and comes to the same debt of 20. */
    private static final String FIVE = "f50,0,8;s9,20,20;r9,20,20;h9,20,20;t9,20,20;g9,20,21;";

    private static int promise;
    private static int passed;
    private static int failed;

    public static void main(String[] args) {
        newObject();
        row();
        set();
        copy();
        drop();
        feed();
        shop();
        fault();
        undo();
        weeks();
        kindsPay();
        stop();
        strike();
        cross();
        dearer();
        debtor();
        shopHas();
        ahead();
        debt();
        shuts();
        bestStop();
        whom();
        stands();
        dear();
        rogue();
        who();
        atDoor();
        pays();
        drawn();
        image();
        restore();
        kind();
        as();
        ask();
        trace();
        count();
        status();
        System.out.println("answers as due: " + passed + ", not as due: " + failed);
        System.exit(failed > 0 ? 1 : 0);
    }

    private static void due(String what, long got, long want) {
        if (got == want) {
            passed++;
        } else {
            failed++;
            System.out.println("promise " + promise + ": " + what + ": " + got + ", due is " + want);
        }
    }

    private static int tell(SlateShop x, String text) {
        for (int i = 0; i < text.length(); i++) {
            due("feed of " + text + " at " + i, x.feed(text.charAt(i)), i + 1);
        }
        return x.shop();
    }

    private static SlateShop of(String text) {
        SlateShop x = new SlateShop();
        due(text, x.count(1), 0);
        int debtors = tell(x, text);
        due(text + " is read", debtors >= 1 && debtors <= 6 ? 1 : debtors, 1);
        return x;
    }

    /** A faulty text: where, and which fault; the shop before it stays. */
    private static void faulty(String text, int place, int number) {
        SlateShop x = of(STEADY);
        x.weeks(1);
        due(text, tell(x, text), -1000100 - place);
        due(text + " fault", x.fault(), number);
        due(text + " shop stays", x.shopHas(0), 19);
        due(text + " acts stay", x.count(7), 1);
        due(text + " tape", x.count(8), 0);
    }

    private static void newObject() {
        promise = 1;
        SlateShop x = new SlateShop();
        for (int what = 0; what <= 8; what++) {
            due("count " + what, x.count(what), 0);
        }
        due("no shop", x.shopHas(0), STATE);
        due("no debtor", x.debtor(0, 0), BAD);
        due("no image 0", x.restore(0), STATE);
        due("no image 1", x.restore(1), STATE);
        due("no act", x.undo(), STATE);
        due("no fault", x.fault(), 0);
        due("no finding", x.status(), 0);
        due("no trace", x.trace(0), NONE);
        due("row missing", x.drop(7), NULL);
        due("NONE", SlateShop.NONE, NONE);
        due("BAD", SlateShop.BAD, BAD);
        due("STATE", SlateShop.STATE, STATE);
        due("FULL", SlateShop.FULL, FULL);
        of(STEADY).weeks(3);
        due("objects are apart", new SlateShop().count(1), 0);
    }

    private static void row() {
        promise = 2;
        SlateShop x = new SlateShop();
        due("of none", x.row(0, 0, 0), 0);
        due("of 40", x.row(7, 2, 40), 40);
        due("41", x.row(0, 0, 41), BAD);
        due("most", x.row(0, 0, MOST), BAD);
        due("row -1", x.row(-1, 0, 1), BAD);
        due("row 8", x.row(8, 0, 1), BAD);
        due("lane -1", x.row(0, -1, 1), BAD);
        due("lane 3", x.row(0, 3, 1), BAD);
        due("lane before size", x.row(0, 3, -1), BAD);
        due("row before size", x.row(8, 0, -1), BAD);
        due("size", x.row(1, 0, -1), SIZE);
        due("size least", x.row(1, 0, LEAST), SIZE);
        due("still missing", x.drop(1), NULL);
        due("last item", x.set(7, 39, 5), 5);
        due("size leaves it", x.row(7, 0, -1), SIZE);
        due("refused leaves it", x.row(7, 0, 41), BAD);
        due("has 40", x.drop(7), 40);
        due("again", x.row(7, 2, 40), 40);
        x.row(6, 2, 1);
        due("zero anew", x.copy(7, 39, 6, 0, 1), 1);
        SlateShop y = of("f50,0,1;s0,0,0;");
        y.row(0, 2, 3);
        y.set(0, 0, 7);
        y.set(0, 1, 7);
        due("items told", y.who(0, 0, 1, 1), 0);
        y.row(0, 2, 3);
        due("0 at first", y.who(0, 0, 0, 3), 62);
    }

    private static void set() {
        promise = 3;
        SlateShop x = new SlateShop();
        x.row(0, 0, 2);
        x.row(1, 1, 2);
        x.row(2, 2, 2);
        due("byte 127", x.set(0, 0, 127), 127);
        due("byte 128", x.set(0, 1, 128), -128);
        due("byte 511", x.set(0, 1, 511), -1);
        due("byte -129", x.set(0, 1, -129), 127);
        due("short 32768", x.set(1, 1, 32768), -32768);
        due("short 128", x.set(1, 1, 128), 128);
        due("short 65541", x.set(1, 1, 65541), 5);
        due("int most", x.set(2, 0, MOST), MOST);
        due("int least", x.set(2, 0, LEAST), LEAST);
        due("place -1", x.set(0, -1, 0), PLACE);
        due("place 2", x.set(0, 2, 0), PLACE);
        due("place least", x.set(0, LEAST, 0), PLACE);
        due("place most", x.set(0, MOST, 0), PLACE);
        due("row -1", x.set(-1, 0, 0), BAD);
        due("row 8", x.set(8, 0, 0), BAD);
        due("missing", x.set(3, 0, 0), NULL);
        due("missing before place", x.set(3, -1, 0), NULL);
    }

    private static void copy() {
        promise = 4;
        SlateShop x = of("f50,0,1;s9,5,99;");
        x.row(0, 1, 5);
        x.row(1, 1, 5);
        x.row(2, 0, 5);
        for (int i = 0; i < 5; i++) {
            x.set(0, i, i + 1);
        }
        due("forward over itself", x.copy(0, 0, 0, 1, 4), 4);
        due("as they were: 1 2 3 4", paid(x, 0, 1, 1, 2, 3, 4), 1);
        due("back over itself", x.copy(0, 1, 0, 0, 4), 4);
        due("as they were: 1 2 3 4 4", paid(x, 0, 0, 1, 2, 3, 4, 4), 1);
        due("to another", x.copy(0, 1, 1, 3, 2), 2);
        due("another: 0 0 0 2 3", paid(x, 1, 0, 0, 0, 0, 2, 3), 1);
        due("none at the end", x.copy(0, 5, 1, 5, 0), 0);
        due("none beyond the end", x.copy(0, 6, 1, 0, 0), PLACE);
        due("none beyond the other end", x.copy(0, 0, 1, 6, 0), PLACE);
        due("beyond an end", x.copy(0, 3, 1, 0, 3), PLACE);
        due("beyond the other end", x.copy(0, 0, 1, 3, 3), PLACE);
        due("i below", x.copy(0, -1, 1, 0, 1), PLACE);
        due("j below", x.copy(0, 0, 1, -1, 1), PLACE);
        due("n below", x.copy(0, 0, 1, 0, -1), PLACE);
        due("n most", x.copy(0, 1, 1, 1, MOST), PLACE);
        due("n least", x.copy(0, 1, 1, 1, LEAST), PLACE);
        due("i most", x.copy(0, MOST, 1, 0, 1), PLACE);
        due("two lanes", x.copy(0, 0, 2, 0, 1), STORE);
        due("two lanes before place", x.copy(0, -1, 2, 0, 1), STORE);
        due("missing a", x.copy(3, 0, 2, 0, 1), NULL);
        due("missing b", x.copy(0, -1, 3, 0, 1), NULL);
        due("a not a row", x.copy(8, 0, 0, 0, 1), BAD);
        due("b not a row", x.copy(3, 0, -1, 0, 1), BAD);
        due("what was found changes nothing", paid(x, 1, 0, 0, 0, 0, 2, 3), 1);
    }

    /** Whether a row's items from i on are these: a debtor who can just pay so tells it. */
    private static int paid(SlateShop x, int row, int i, int... items) {
        for (int k = 0; k < items.length; k++) {
            int told = tell(x, "f99,0,8;s" + items[k] + ",40,99;");
            if (told != 1 || (x.who(0, row, i + k, 1) & 2) == 0) {
                return 0;
            }
        }
        return 1;
    }

    private static void drop() {
        promise = 5;
        SlateShop x = new SlateShop();
        x.row(3, 1, 17);
        due("had", x.drop(3), 17);
        due("missing now", x.drop(3), NULL);
        due("not counted", x.count(0), 0);
        x.row(3, 1, 0);
        due("had none", x.drop(3), 0);
        due("row -1", x.drop(-1), BAD);
        due("row 8", x.drop(8), BAD);
    }

    private static void feed() {
        promise = 6;
        SlateShop x = new SlateShop();
        due("0", x.feed(0), 1);
        due("255", x.feed(255), 2);
        due("256", x.feed(256), BAD);
        due("-1", x.feed(-1), BAD);
        for (int i = 3; i <= 120; i++) {
            due("byte " + i, x.feed('f'), i);
        }
        due("121", x.feed('f'), FULL);
        due("bad before full", x.feed(300), BAD);
        due("has", x.count(8), 120);
        due("read", x.shop(), -1000100);
        due("empty", x.feed('f'), 1);
    }

    private static void shop() {
        promise = 7;
        SlateShop x = of(STEADY);
        due("one", x.count(1), 1);
        x.row(0, 0, 3);
        x.weeks(5);
        x.strike(3);
        x.cross(0, 1);
        x.image(1);
        due("another", tell(x, "f7,20,8;g60,40,99;t0,0,0;h05,09,00;r1,1,1;s1,1,1;g1,1,1;"), 6);
        due("cash", x.shopHas(0), 7);
        due("owed", x.shopHas(1), 0);
        due("strike", x.shopHas(2), 0);
        due("shut", x.shopHas(3), 0);
        due("debts", x.shopHas(4), 0);
        due("lost", x.shopHas(5), 0);
        due("week", x.count(4), 0);
        due("crossed", x.count(5), 0);
        due("acts", x.undo(), STATE);
        due("rows stay", x.count(0), 1);
        due("images stay", x.restore(1), 1);
        due("image", x.count(4), 5);
        due("of no bytes", new SlateShop().shop(), -1000100);
        x.weeks(1);
        x.ahead(1, 0);
        tell(x, STEADY);
        due("no debts of the one before", x.debtor(0, 0), 0);
        faulty("", 0, 1);
        faulty("f", 1, 1);
        faulty("g1,1,1;s1,1,1;", 0, 1);
        faulty("f1,1,1;", 7, 1);
        faulty("f1,1,1;s1,1,1", 13, 1);
        faulty("f1,1,1;s1,1,1;t", 15, 1);
        faulty("f1,1,1;f1,1,1;", 7, 1);
        faulty("F1,1,1;s1,1,1;", 0, 1);
        faulty("f 1,1,1;s1,1,1;", 1, 1);
        faulty("f1;1,1;s1,1,1;", 2, 1);
        faulty("f1,1,1,s1,1,1;", 6, 1);
        faulty("f,1,1;s1,1,1;", 1, 1);
        faulty("f123,1,1;s1,1,1;", 1, 1);
        faulty("f1,1,1;s1,0001,1;", 10, 1);
        faulty("f1,1,1;4294967297,1,1;", 7, 1);
        faulty("f4294967297,1,1;s1,1,1;", 1, 1);
        faulty("f1,21,1;s1,1,1;", 3, 2);
        faulty("f1,1,0;s1,1,1;", 5, 2);
        faulty("f1,1,9;s1,1,1;", 5, 2);
        faulty("f1,1,00;s1,1,1;", 5, 2);
        faulty("f1,1,1;s61,1,1;", 8, 2);
        faulty("f1,1,1;s1,41,1;", 10, 2);
        faulty("f1,1,1;s1,41,100;q", 10, 2);
        faulty("f1,1,1;s1,1,100;", 12, 1);
        String six = "f1,1,1;s1,1,1;r1,1,1;h1,1,1;t1,1,1;g1,1,1;s1,1,1;";
        faulty(six + "s1,1,1;", 49, 3);
        faulty(six + "g", 49, 3);
        faulty(six + "f1,1,1;", 49, 1);
        faulty(six + "1", 49, 1);
        due("edges", of("f99,20,8;s60,40,99;").count(3), 8);
        due("least", of("f0,0,1;g0,0,0;").count(3), 1);
        due("two figures", of("f00,00,01;g00,00,00;").count(3), 1);
    }

    private static void fault() {
        promise = 8;
        SlateShop x = new SlateShop();
        due("before one", x.fault(), 0);
        tell(x, "f1,21,1;");
        due("2", x.fault(), 2);
        tell(x, STEADY);
        due("stays", x.fault(), 2);
        x.shop();
        due("1", x.fault(), 1);
    }

    private static void undo() {
        promise = 9;
        SlateShop x = of("f50,4,2;g20,30,25;s5,10,40;");
        x.weeks(1);
        due("gone", x.count(6), 1);
        x.cross(1, 1);
        x.cross(1, 0);
        x.dearer(20);
        x.strike(7);
        x.stop(1, 3);
        x.stop(1, 3);
        due("nothing became another", x.undo(), 6);
        due("stop", x.debtor(1, 3), 3);
        due("of stop", x.undo(), 5);
        due("stop back", x.debtor(1, 3), 40);
        due("strike", x.shopHas(2), 7);
        due("of strike", x.undo(), 4);
        due("strike back", x.shopHas(2), 0);
        due("of dearer", x.undo(), 3);
        due("dearer back", x.count(2), 4);
        due("debt 0", x.debtor(1, 0), 0);
        due("of not any more", x.undo(), 2);
        due("crossed again", x.count(5), 2);
        due("lost again", x.shopHas(5), 30 + 7);
        due("of crossed", x.undo(), 1);
        due("debt back", x.debtor(1, 0), 7);
        due("of week", x.undo(), 0);
        due("not gone", x.count(6), 0);
        due("cash", x.shopHas(0), 50);
        due("owed", x.shopHas(1), 0);
        due("paid", x.debtor(1, 6), 0);
        due("took", x.debtor(0, 7), 0);
        due("week", x.count(4), 0);
        due("none", x.undo(), STATE);
        x = of("f99,0,8;s0,0,0;");
        x.stop(0, 9);
        due("24", x.weeks(24), 99);
        due("kept", x.count(7), 24);
        x.weeks(2);
        for (int left = 23; left >= 0; left--) {
            due("left", x.undo(), left);
        }
        due("two weeks are forgotten", x.count(4), 2);
        due("no more", x.undo(), STATE);
        due("stop was forgotten", x.debtor(0, 3), 9);
        due("refused is no act", x.stop(0, 100), BAD);
        due("no act", x.count(7), 0);
    }

    private static void weeks() {
        promise = 10;
        due("no shop", new SlateShop().weeks(0), STATE);
        SlateShop x = of(STEADY);
        due("0", x.weeks(0), BAD);
        due("25", x.weeks(25), BAD);
        due("1", x.weeks(1), 19);
        due("owed", x.shopHas(1), 10);
        due("debt", x.debtor(0, 0), 1);
        due("2", x.weeks(2), 37);
        due("owed 30", x.shopHas(1), 30);
        due("the wholesaler", x.weeks(1), 6);
        due("owed 0", x.shopHas(1), 0);
        due("acts", x.count(7), 4);
        due("week", x.count(4), 4);
        due("not shut", x.shopHas(3), 0);
        due("stopped in the last", x.weeks(8), -1);
        due("shut", x.shopHas(3), 1);
        due("pays, takes nothing", x.weeks(1), 8);
        due("debt less", x.debtor(0, 0), 11 - 9);
        due("shut from then on", x.shopHas(3), 1);
        due("owed nothing", x.shopHas(1), 0);
        due("the rest", x.weeks(1), 10);
        due("no more", x.weeks(1), 10);
        x = of("f5,19,8;s0,19,99;s0,40,21;s0,40,9;");
        due("none pays", x.weeks(1), 5);
        due("19 and 19 of 20 of it, cut", x.debtor(0, 0), 19 + 18);
        due("all that the stop leaves", x.debtor(1, 0), 21 + 19);
        due("9", x.debtor(2, 0), 9 + 8);
        due("owed without", x.shopHas(1), 49);
        x.weeks(1);
        due("above the stop none", x.debtor(1, 0), 40);
        due("19 more", x.debtor(0, 0), 74);
        x = of("f0,0,8;s0,0,0;");
        for (int i = 0; i < 41; i++) {
            x.weeks(24);
        }
        due("984", x.count(4), 984);
        due("16 more", x.weeks(16), FULL);
        due("bad before full", x.weeks(25), BAD);
        due("15 more", x.weeks(15), 0);
        due("999", x.count(4), 999);
        due("one more", x.weeks(1), FULL);
        due("no act of it", x.undo(), 23);
        due("again", x.weeks(1), 0);
    }

    private static void kindsPay() {
        SlateShop x = of(FIVE);
        x.weeks(1);
        int[] first = {9, 9, 0, 4, 4};
        for (int one = 0; one < 5; one++) {
            due("kind " + (one + 1) + " pays", x.debtor(one, 6), first[one]);
            due("kind " + (one + 1) + " owes", x.debtor(one, 0), 20 - first[one]);
        }
        x = of("f99,0,8;r60,15,99;h7,8,40;g60,30,30;g0,10,99;g60,0,0;t60,9,99;");
        x.weeks(1);
        due("half, cut", x.debtor(0, 6), 7);
        due("at the stop he is gone", x.debtor(2, 4), 1);
        due("and pays nothing", x.debtor(2, 6), 0);
        due("below it he stays", x.debtor(3, 4), 0);
        due("no debt, stop 0: he stays", x.debtor(4, 4), 0);
        due("his debt at most", x.debtor(5, 6), 9);
        x.stop(3, 10);
        x.weeks(1);
        due("half of 8 and 15", x.debtor(0, 6), 7 + 11);
        due("stopped, he is gone", x.debtor(3, 4), 1);
        x.weeks(1);
        due("hay, not yet", x.debtor(1, 6), 0);
        due("of hay", x.debtor(1, 0), 24);
        x.weeks(1);
        due("hay in the fourth", x.debtor(1, 6), 7);
        x.weeks(3);
        due("hay, not in the next three", x.debtor(1, 6), 7);
        x.weeks(1);
        due("hay in the eighth", x.debtor(1, 6), 14);
        due("the gone take no more", x.debtor(2, 7), 30);
        x = of("f99,0,8;s0,0,0;r60,13,99;g9,1,1;");
        x.weeks(1);
        due("the second: half, cut", x.debtor(1, 6), 6);
        due("1 is above 0: he is gone", x.debtor(2, 4), 1);
        x = of("f99,0,8;g9,20,19;");
        x.strike(1);
        x.weeks(1);
        due("in a strike none goes", x.debtor(0, 4), 0);
        x.weeks(1);
        due("behind it he goes", x.debtor(0, 4), 1);
    }

    private static void stop() {
        promise = 11;
        SlateShop x = of(FIVE);
        due("was", x.stop(4, 0), 21);
        due("was", x.stop(4, 99), 0);
        due("is", x.debtor(4, 3), 99);
        due("100", x.stop(4, 100), BAD);
        due("-1", x.stop(4, -1), BAD);
        due("no one", x.stop(5, 0), BAD);
        due("no one", x.stop(-1, 0), BAD);
        due("acts", x.count(7), 2);
        due("no shop", new SlateShop().stop(0, 0), BAD);
        x.stop(0, 7);
        x.weeks(1);
        due("took", x.debtor(0, 7), 7);
    }

    private static void strike() {
        promise = 12;
        due("no shop", new SlateShop().strike(21), STATE);
        SlateShop x = of(STEADY);
        due("none", x.strike(2), 0);
        due("in place of it", x.strike(20), 2);
        due("21", x.strike(21), BAD);
        due("-1", x.strike(-1), BAD);
        due("back to 2", x.undo(), 1);
        due("none pays", x.weeks(1), 10);
        due("he takes", x.debtor(0, 0), 10);
        due("less", x.shopHas(2), 1);
        x.weeks(1);
        due("stopped", x.debtor(0, 0), 20);
        due("over", x.shopHas(2), 0);
        due("pays", x.weeks(1), 19);
        x.strike(4);
        due("ended", x.strike(0), 4);
        due("acts", x.count(7), 6);
    }

    private static void cross() {
        promise = 13;
        due("no shop", new SlateShop().cross(0, 1), BAD);
        SlateShop x = of("f99,0,8;s0,10,99;g5,20,20;s3,5,99;");
        x.weeks(1);
        due("gone", x.count(6), 2);
        due("lost", x.cross(0, 1), 20 + 10);
        due("once", x.cross(1, 1), 20 + 10);
        due("it is so", x.cross(1, 1), STATE);
        due("on 2", x.cross(1, 2), BAD);
        due("on -1", x.cross(2, -1), BAD);
        due("no one", x.cross(3, 1), BAD);
        due("no one", x.cross(-1, 1), BAD);
        due("it is not so", x.cross(2, 0), STATE);
        x.weeks(2);
        due("takes no more", x.debtor(0, 7), 10);
        due("debt as it was then", x.debtor(0, 0), 10);
        due("lost still", x.shopHas(5), 30);
        due("not any more", x.cross(0, 0), 20);
        due("debt 0", x.debtor(0, 0), 0);
        x.weeks(1);
        due("takes anew", x.debtor(0, 0), 10);
        due("took in all", x.debtor(0, 7), 20);
        due("the gone one", x.cross(1, 0), 0);
        due("is gone yet", x.debtor(1, 4), 1);
        due("acts", x.count(7), 8);
    }

    private static void dearer() {
        promise = 14;
        due("no shop", new SlateShop().dearer(21), STATE);
        SlateShop x = of("f99,3,8;s0,10,99;");
        due("was", x.dearer(20), 3);
        due("is", x.count(2), 20);
        due("21", x.dearer(21), BAD);
        due("-1", x.dearer(-1), BAD);
        x.weeks(1);
        due("as much again", x.debtor(0, 0), 20);
        due("was", x.dearer(0), 20);
        due("acts", x.count(7), 3);
    }

    private static void debtor() {
        promise = 15;
        due("no shop", new SlateShop().debtor(0, 0), BAD);
        SlateShop x = of("f99,10,8;s7,11,40;g30,31,32;");
        x.weeks(1);
        int[][] all = {{16 - 7, 7, 11, 40, 0, 0, 7, 11}, {46, 30, 31, 32, 1, 0, 0, 31}};
        for (int one = 0; one < 2; one++) {
            for (int what = 0; what < 8; what++) {
                due("of " + one + " " + what, x.debtor(one, what), all[one][what]);
            }
        }
        x.cross(0, 1);
        due("crossed out", x.debtor(0, 5), 1);
        due("not crossed out", x.debtor(1, 5), 0);
        due("no one", x.debtor(2, 0), BAD);
        due("no one", x.debtor(-1, 0), BAD);
        due("8", x.debtor(0, 8), BAD);
        due("-1", x.debtor(0, -1), BAD);
    }

    private static void shopHas() {
        promise = 16;
        due("no shop", new SlateShop().shopHas(6), STATE);
        SlateShop x = of("f40,0,4;s9,10,20;g5,20,20;s0,15,99;");
        x.weeks(1);
        x.strike(6);
        int[] all = {49, 45, 6, 0, 1 + 20 + 15, 20};
        for (int what = 0; what < 6; what++) {
            due("what " + what, x.shopHas(what), all[what]);
        }
        x.cross(2, 1);
        due("debts of those not crossed out", x.shopHas(4), 21);
        due("lost", x.shopHas(5), 35);
        x.weeks(3);
        due("shut", x.shopHas(3), 1);
        due("cash", x.shopHas(0), 49 - 45 - 10 - 9);
        due("6", x.shopHas(6), BAD);
        due("-1", x.shopHas(-1), BAD);
    }

    private static void ahead() {
        promise = 17;
        due("no shop", new SlateShop().ahead(61, 3), STATE);
        SlateShop x = of(STEADY);
        due("0", x.ahead(0, 0), 10);
        due("3", x.ahead(3, 0), 37);
        due("3 owed", x.ahead(3, 1), 30);
        due("3 debts", x.ahead(3, 2), 3);
        due("4", x.ahead(4, 0), 6);
        due("4 owed", x.ahead(4, 1), 0);
        due("60", x.ahead(60, 0), 10);
        due("61", x.ahead(61, 0), BAD);
        due("-1", x.ahead(-1, 0), BAD);
        due("what 3", x.ahead(1, 3), BAD);
        due("what -1", x.ahead(1, -1), BAD);
        due("nothing changes", x.shopHas(0) * 100 + x.count(4) + x.count(7), 1000);
        x.weeks(1);
        x.cross(0, 1);
        due("as shopHas", x.ahead(0, 2), x.shopHas(4));
    }

    private static void debt() {
        promise = 18;
        due("no shop", new SlateShop().debt(0, 0), BAD);
        SlateShop x = of(STEADY);
        due("0", x.debt(0, 0), 0);
        due("7", x.debt(0, 7), 7);
        due("13", x.debt(0, 13), 2);
        due("60", x.debt(0, 60), 0);
        due("61", x.debt(0, 61), BAD);
        due("-1", x.debt(0, -1), BAD);
        due("no one", x.debt(1, 1), BAD);
        due("no one", x.debt(-1, 1), BAD);
        due("nothing changes", x.debtor(0, 0), 0);
        due("of another", of("f99,0,8;s0,3,99;s0,5,99;h0,7,99;").debt(2, 2), 14);
    }

    private static void shuts() {
        promise = 19;
        due("no shop", new SlateShop().shuts(), STATE);
        SlateShop x = of(STEADY);
        due("12", x.shuts(), 12);
        x.weeks(11);
        due("1", x.shuts(), 1);
        x.weeks(1);
        due("it is", x.shuts(), 0);
        due("never", of("f0,0,8;s9,9,9;").shuts(), NONE);
        // 60 cash, and 1 a week is lost: 0 behind 60 weeks, shut behind 61.
        due("61 is too far", of("f60,0,1;s0,0,99;").shuts(), NONE);
        due("60", slow(59).shuts(), 60);
        due("61", slow(60).shuts(), NONE);
    }

    /** A shop of so much cash that loses 1 a week, if its wholesaler comes each week. */
    private static SlateShop slow(int cash) {
        return of("f" + cash + ",0,1;s0,1,99;");
    }

    private static void bestStop() {
        promise = 20;
        due("no shop", new SlateShop().bestStop(0, 1, 0), BAD);
        SlateShop x = of("f10,20,8;s9,10,20;");
        // Stopped at s he takes s, owes 2s, and pays 9 a week: 8 for 4, or 9 for 5.
        due("one week: the least of 4 and 5", x.bestStop(0, 1, 0), 4);
        due("how much", x.bestStop(0, 1, 1), 10 + 4);
        // 9 for 5, then 9 for 4; or 9 and 9 for 9.
        due("two weeks: the least of 5 and 9", x.bestStop(0, 2, 0), 5);
        due("how much", x.bestStop(0, 2, 1), 10 + 9);
        due("nothing changes", x.debtor(0, 3), 20);
        due("60", x.bestStop(0, 60, 0) >= 0 ? 1 : 0, 1);
        due("0 weeks", x.bestStop(0, 0, 0), BAD);
        due("61 weeks", x.bestStop(0, 61, 0), BAD);
        due("no one", x.bestStop(1, 1, 0), BAD);
        due("no one", x.bestStop(-1, 1, 0), BAD);
        due("what 2", x.bestStop(0, 1, 2), BAD);
        due("what -1", x.bestStop(0, 1, -1), BAD);
        due("all the same: the least", of("f10,0,8;s60,0,20;").bestStop(0, 5, 0), 0);
        due("of another", of("f0,20,8;s0,9,9;s60,40,0;").bestStop(1, 1, 0), 30);
        due("of another, how much", of("f0,20,8;s0,9,9;s60,40,0;").bestStop(1, 1, 1), 60 - 30 - 9);
        // He pays all: twice the 51 that 99 leaves him in the strike, and twice 16 in each of the last 11 weeks.
        x = of("f70,20,8;s59,16,8;");
        x.strike(9);
        due("99", x.bestStop(0, 21, 0), 99);
        due("99, how much", x.bestStop(0, 21, 1), 70 + 51 + 11 * 16);
        due("cash below 0", of("f0,0,1;t0,40,99;s0,3,3;").bestStop(0, 9, 1), -3);
    }

    private static void whom() {
        promise = 21;
        due("no shop", new SlateShop().whom(0, 2), STATE);
        SlateShop x = of("f30,10,8;s0,10,99;s30,10,99;t60,10,99;s0,0,99;g60,10,9;");
        due("those who pay more", x.whom(8, 0), 6);
        // The last is stopped at 9 with 13 to pay: he is gone. The two pay 15 a week for 10.
        due("how much", x.whom(8, 1), 30 + 2 * 8 * 5);
        due("0 weeks", x.whom(0, 0), BAD);
        due("61 weeks", x.whom(61, 0), BAD);
        due("what 2", x.whom(1, 2), BAD);
        due("what -1", x.whom(1, -1), BAD);
        due("nothing changes", x.debtor(0, 3), 99);
        due("of several the fewest", of("f30,0,8;s60,10,99;s60,10,99;").whom(8, 0), 0);
        x = of("f30,20,8;s60,10,10;s60,10,10;s0,10,10;");
        due("both", x.whom(3, 0), 3);
        // He pays twice what he takes, but only in the fourth week: the wholesaler comes before.
        x = of("f5,20,1;h60,3,3;h60,3,3;");
        due("one is all that she stands; the least bits", x.whom(4, 0), 1);
        due("one", x.whom(4, 1), 5 + 3);
        x = of("f1,0,1;s0,9,99;");
        x.weeks(1);
        due("shut", x.whom(1, 0), NONE);
        due("shut", x.whom(1, 1), NONE);
        // Owed already, and none of it is paid in time, to whomever she gives.
        x = of("f1,0,2;s0,9,99;");
        x.weeks(1);
        due("shut then", x.whom(1, 0), NONE);
        // A rogue who owes is gone when he is stopped at 0.
        x = of("f99,0,8;g60,10,50;");
        x.strike(1);
        x.weeks(1);
        due("keep him", x.whom(1, 0), 1);
        due("he pays 20", x.whom(1, 1), 99);
    }

    private static void stands() {
        promise = 22;
        due("no shop", new SlateShop().stands(), STATE);
        // 10 a week: the wholesaler takes 10 of 35, then 5 more can't be had in the fourth.
        SlateShop x = of("f35,0,1;s10,10,99;");
        due("three", x.stands(), 3);
        x.strike(9);
        due("from now on, in place of it", x.stands(), 3);
        due("nothing changes", x.shopHas(2), 9);
        due("20", of("f99,0,1;s60,0,99;").stands(), 20);
        due("19", of("f95,0,1;s5,5,99;").stands(), 19);
        due("not even 0", of("f5,0,1;s0,10,99;").stands(), NONE);
        due("0", of("f9,0,1;s10,10,99;").stands(), 0);
        // Without a strike it is shut behind 40 weeks, not behind 39.
        due("40 weeks", slow(39).stands(), NONE);
        due("41 weeks", slow(40).stands(), 20);
        x = of("f1,0,1;s0,9,99;");
        x.weeks(1);
        due("shut", x.stands(), NONE);
    }

    private static void dear() {
        promise = 23;
        due("no shop", new SlateShop().dear(0), STATE);
        // 20 lent, 20 and d owed, half of it paid: 10 and half of d against 20.
        SlateShop x = of("f0,0,1;r60,20,20;");
        due("never so much", x.dear(1), 20);
        x = of("f5,7,1;r60,20,20;");
        due("five of it she has", x.dear(1), 10);
        due("nothing changes", x.count(2), 7);
        due("none is needed", of("f0,7,1;s60,20,20;").dear(60), 0);
        // By 8 he is so near to 99 behind nine weeks that he takes less than the 19 that he pays.
        due("till he is stopped", of("f9,7,1;t38,20,99;").dear(60), 8);
        due("not even 20", of("f0,7,1;s0,20,99;").dear(1), NONE);
        due("0 weeks", x.dear(0), BAD);
        due("61 weeks", x.dear(61), BAD);
    }

    private static void rogue() {
        promise = 24;
        due("no shop", new SlateShop().rogue(0, 1, 0), BAD);
        SlateShop x = of("f99,0,8;s9,10,20;h0,0,0;");
        due("one week", x.rogue(0, 1, 0), 10);
        due("one week", x.rogue(0, 1, 1), 10);
        // Stopped at 12: 10, pays 4, takes 6 more of 10, and is gone: 16 less 4.
        due("two weeks: 20 less 4", x.rogue(0, 2, 1), 16);
        due("two weeks", x.rogue(0, 2, 0), 16);
        due("none", x.rogue(1, 9, 1), 0);
        due("the least", x.rogue(1, 9, 0), 0);
        SlateShop y = of("f99,0,8;s9,40,20;h2,33,0;r60,40,99;");
        due("of another", y.rogue(1, 1, 0), 33);
        due("of another, how much", y.rogue(1, 2, 1), 66 - 1);
        due("of another, two weeks", y.rogue(1, 2, 0), 65);
        y.strike(3);
        due("99", y.rogue(2, 3, 0), 99);
        due("99, how much", y.rogue(2, 3, 1), 99);
        x.weeks(2);
        due("only what is to come", x.rogue(1, 9, 1), 0);
        due("what he owes is 2 now", x.rogue(0, 1, 1), 10);
        due("stopped at 12", x.rogue(0, 1, 0), 12);
        due("nothing changes", x.kind(0) * 100 + x.debtor(0, 3), 120);
        due("no one", x.rogue(2, 1, 0), BAD);
        due("no one", x.rogue(-1, 1, 0), BAD);
        due("0 weeks", x.rogue(0, 0, 0), BAD);
        due("61 weeks", x.rogue(0, 61, 0), BAD);
        due("what 2", x.rogue(0, 1, 2), BAD);
        due("what -1", x.rogue(0, 1, -1), BAD);
        x.cross(1, 1);
        due("crossed out", x.rogue(1, 1, 0), STATE);
        due("bad before state", x.rogue(1, 61, 0), BAD);
        x = of("f99,0,8;g9,10,5;");
        x.weeks(1);
        due("gone", x.rogue(0, 1, 0), STATE);
    }

    private static void who() {
        promise = 25;
        due("no shop", new SlateShop().who(0, 0, 0, 1), BAD);
        SlateShop x = of(FIVE);
        due("missing", x.who(0, 3, 0, 1), NULL);
        due("missing", x.status(), 1);
        x.row(3, 2, 14);
        x.set(3, 1, 9);
        x.set(3, 2, 5);
        due("9: a steady, a rolling one", x.who(3, 3, 1, 1), 2 + 4);
        due("9 and then 9 or 5", x.who(3, 3, 1, 2), 0);
        x.set(3, 2, 9);
        due("9 and 9", x.who(0, 3, 1, 2), 2 + 4);
        x.set(3, 1, 4);
        due("4: twice, or a rogue who is stopped at 21", x.who(4, 3, 1, 1), 16 + 32);
        due("stopped at 20 a rogue is gone", x.who(3, 3, 1, 1), 16);
        due("0: hay, and a rogue stopped", x.who(0, 3, 0, 1), 8 + 32);
        SlateShop y = of("f99,0,8;s9,20,20;s9,20,20;");
        y.row(0, 1, 2);
        y.set(0, 0, 9);
        y.set(0, 1, 9);
        y.weeks(1);
        due("in each week, not in all", y.who(1, 0, 0, 2), 2 + 4);
        due("0: hay", x.who(4, 3, 0, 1), 8);
        due("nothing changes", x.count(4), 0);
        due("12 of 14 from 2", x.who(0, 3, 2, 12), 0);
        due("from 3", x.who(0, 3, 3, 12), PLACE);
        due("place", x.status(), 2);
        due("from -1", x.who(0, 3, -1, 1), PLACE);
        due("from most", x.who(0, 3, MOST, 1), PLACE);
        due("n 0", x.who(0, 3, 0, 0), BAD);
        due("n 13", x.who(0, 3, 0, 13), BAD);
        due("no one", x.who(5, 3, 0, 1), BAD);
        due("no one", x.who(-1, 3, 0, 1), BAD);
        due("no row", x.who(0, 8, 0, 1), BAD);
        due("no row", x.who(0, -1, 0, 1), BAD);
        due("bad before null", x.who(0, 2, 0, 13), BAD);
        due("null before place", x.who(0, 2, -1, 1), NULL);
        x.cross(0, 1);
        x.row(2, 0, 12);
        due("crossed out he pays nothing, whatever he is", x.who(0, 2, 0, 12), 62);
        due("found", x.status(), 0);
    }

    private static void atDoor() {
        promise = 26;
        due("no shop", new SlateShop().atDoor(6), STATE);
        SlateShop y = of("f99,0,8;s0,8,99;s0,9,99;");
        y.weeks(1);
        due("1 more", y.atDoor(0), 1);
        SlateShop x = of("f99,0,8;s0,5,99;s0,9,99;g0,9,9;s0,9,99;s0,1,99;s0,30,99;");
        x.cross(5, 1);
        x.weeks(1);
        int[] order = {1, 3, 0, 4, NONE, NONE};
        for (int k = 0; k < 6; k++) {
            due("the " + k, x.atDoor(k), order[k]);
        }
        due("6", x.atDoor(6), BAD);
        due("-1", x.atDoor(-1), BAD);
    }

    private static void pays() {
        promise = 27;
        due("no shop", new SlateShop().pays(11, 0, 0), STATE);
        SlateShop x = of("f99,0,8;s0,0,0;s0,0,0;s0,0,0;s0,0,0;s0,0,0;s0,0,0;");
        fraction(x, 5, 0, 1, 1);
        fraction(x, 5, 6, 1, 64);
        fraction(x, 5, 3, 42, 64);
        fraction(x, 3, 6, 729, 1000000);
        fraction(x, 3, 1, 1000000 - 117649, 1000000);
        fraction(x, 0, 0, 1, 1);
        fraction(x, 0, 1, 0, 1);
        fraction(x, 10, 6, 1, 1);
        due("7 of 6", x.pays(5, 7, 0), BAD);
        due("-1 of 6", x.pays(5, -1, 0), BAD);
        due("11 of 10", x.pays(11, 1, 0), BAD);
        due("-1 of 10", x.pays(-1, 1, 0), BAD);
        due("what 2", x.pays(5, 1, 2), BAD);
        due("what -1", x.pays(5, 1, -1), BAD);
        x = of("f99,0,8;s0,0,0;g9,9,9;s0,0,0;");
        x.cross(0, 1);
        x.weeks(1);
        fraction(x, 2, 1, 1, 5);
        due("of one 2", x.pays(2, 2, 0), BAD);
        x.cross(2, 1);
        fraction(x, 2, 0, 1, 1);
        due("of none 1", x.pays(2, 1, 0), BAD);
    }

    private static void fraction(SlateShop x, int p, int k, long above, long below) {
        long common = 1;
        for (long c = 1; c <= below; c++) {
            if (above % c == 0 && below % c == 0) {
                common = c;
            }
        }
        due(p + " of 10, " + k + " above", x.pays(p, k, 0), above / common);
        due(p + " of 10, " + k + " below", x.pays(p, k, 1), below / common);
    }

    private static void drawn() {
        promise = 28;
        due("no shop", new SlateShop().drawn(61, 0, 2), STATE);
        SlateShop x = of("f0,0,8;s1,40,99;");
        // 16807 times 10 leaves 0 by 10: a strike of 1 in week 0, and X becomes 677268843.
        due("a strike at once", x.drawn(1, 10, 0), 0);
        due("nobody paid", x.drawn(1, 10, 1), 1);
        due("the next pays", x.drawn(2, 10, 0), 1);
        due("one of two", x.drawn(2, 10, 1), 1);
        due("16807: none", x.drawn(1, 1, 0), 1);
        due("16807: paid", x.drawn(1, 1, 1), 0);
        due("no strike, but nobody paid", of("f9,0,8;s0,9,99;").drawn(1, 1, 1), 1);
        due("none", x.drawn(0, 999999, 0), 0);
        due("none", x.drawn(0, 999999, 1), 0);
        int strikes = 0;
        long drawn = 77;
        for (int i = 0; i < 60; i++) {
            drawn = drawn * 16807 % 2147483647L;
            strikes += drawn % 10 == 0 ? 1 : 0;
        }
        due("some strikes", strikes > 2 ? 1 : 0, 1);
        due("a strike for each", of("f99,0,8;s1,1,99;").drawn(60, 77, 1), strikes);
        x.strike(2);
        due("there is one: its two weeks", x.drawn(3, 10, 1), 2);
        due("nothing changes", x.shopHas(2), 2);
        due("-1", x.drawn(-1, 1, 0), BAD);
        due("61", x.drawn(61, 1, 0), BAD);
        due("seed 0", x.drawn(1, 0, 0), BAD);
        due("seed 1000000", x.drawn(1, 1000000, 0), BAD);
        due("what 2", x.drawn(1, 1, 2), BAD);
        due("what -1", x.drawn(1, 1, -1), BAD);
    }

    private static void image() {
        promise = 29;
        SlateShop x = new SlateShop();
        due("no shop", x.image(0), STATE);
        due("bad before state", x.image(2), BAD);
        tell(x, STEADY);
        due("0", x.image(0), 1);
        due("2", x.image(2), BAD);
        due("-1", x.image(-1), BAD);
        x.weeks(3);
        due("1", x.image(1), 1);
        x.weeks(3);
        due("of 0", x.restore(0) * 100 + x.count(4), 100);
        due("of 1", x.restore(1) * 100 + x.count(4), 103);
        due("no act", x.undo(), STATE);
        x.weeks(1);
        x.image(1);
        due("is no act", x.count(7), 1);
        x.restore(0);
        due("in place of the one before", x.restore(1) * 100 + x.count(4), 104);
    }

    private static void restore() {
        promise = 30;
        SlateShop x = of("f50,4,2;g20,30,25;s5,10,40;");
        due("none", x.restore(1), STATE);
        due("2", x.restore(2), BAD);
        due("-1", x.restore(-1), BAD);
        x.weeks(1);
        x.cross(1, 1);
        x.strike(5);
        x.image(1);
        tell(x, STEADY);
        x.weeks(2);
        due("back", x.restore(1), 1);
        due("no act", x.count(7), 0);
        due("undo", x.undo(), STATE);
        due("debtors", x.count(1), 2);
        due("crossed", x.count(5), 2);
        due("gone", x.count(6), 1);
        due("dearer", x.count(2), 4);
        due("every", x.count(3), 2);
        due("week", x.count(4), 1);
        due("strike", x.shopHas(2), 5);
        due("owed", x.shopHas(1), 35);
        due("paid", x.debtor(1, 6), 5);
        due("kind", x.kind(0), 5);
        x.weeks(1);
        due("the image is as it was", x.restore(1) * 100 + x.count(4), 101);
        due("the other has none", x.restore(0), STATE);
    }

    private static void kind() {
        promise = 31;
        due("no shop", new SlateShop().kind(0), BAD);
        SlateShop x = of(FIVE);
        for (int one = 0; one < 5; one++) {
            due("kind", x.kind(one), one + 1);
        }
        due("no one", x.kind(5), BAD);
        due("no one", x.kind(-1), BAD);
    }

    private static void as() {
        promise = 32;
        due("no shop", new SlateShop().as(0, 0), BAD);
        SlateShop x = of(FIVE);
        int[][] is = {{0, 1}, {0, 1, 2}, {0, 1, 3}, {0, 4}, {0, 4, 5}};
        for (int one = 0; one < 5; one++) {
            for (int kind = 0; kind <= 5; kind++) {
                boolean such = false;
                for (int k : is[one]) {
                    such |= k == kind;
                }
                due(one + " as " + kind, x.as(one, kind), such ? one : KIND);
                due("status", x.status(), such ? 0 : 3);
            }
        }
        due("no one", x.as(5, 0), BAD);
        due("no one", x.as(-1, 0), BAD);
        due("6", x.as(0, 6), BAD);
        due("-1", x.as(0, -1), BAD);
        due("bad leaves it", x.status(), 0);
    }

    private static void ask() {
        promise = 33;
        due("no shop", new SlateShop().ask(0, 0), BAD);
        SlateShop x = of(FIVE);
        x.weeks(1);
        // Debts 11 11 20 16 16, wages 9.
        due("size of a steady one", x.ask(0, 0), 11 + 9);
        traced(x, 11, 10, 21, 20);
        due("mark of a steady one", x.ask(0, 1), 9);
        traced(x, 21, 20);
        due("size of a rolling one", x.ask(1, 0), -(11 + 20));
        traced(x, 12, 11, 10, 24, 21, 20);
        due("mark of a rolling one", x.ask(1, 1), 20);
        traced(x, 24, 21, 20);
        due("size of a hay one", x.ask(2, 0), 20 + 2 + 9 - 1000);
        traced(x, 11, 10, 22, 21, 20);
        due("mark of a hay one", x.ask(2, 1), 11 - 1000);
        traced(x, 22, 21, 20);
        due("size of one who owes twice", x.ask(3, 0), 16 - 100);
        traced(x, 13, 10);
        due("mark of one who owes twice", x.ask(3, 1), 3 + 84);
        traced(x, 23, 20, 13, 10);
        due("size of a rogue", x.ask(4, 0), -168);
        traced(x, 14, 13, 10);
        due("mark of a rogue", x.ask(4, 1), 4 + 168);
        traced(x, 23, 20, 14, 13, 10);
        due("no one", x.ask(5, 0), BAD);
        due("no one", x.ask(-1, 0), BAD);
        due("what 2", x.ask(0, 2), BAD);
        due("what -1", x.ask(0, -1), BAD);
        traced(x, 23, 20, 14, 13, 10);
        x.cross(0, 1);
        due("crossed out", x.ask(0, 0), 20);
    }

    private static void traced(SlateShop x, int... bodies) {
        for (int i = 0; i < bodies.length; i++) {
            due("trace " + i, x.trace(i), bodies[i]);
        }
        due("no more", x.trace(bodies.length), NONE);
    }

    private static void trace() {
        promise = 34;
        SlateShop x = of("f9,0,8;t0,0,0;");
        due("empty", x.trace(0), NONE);
        x.ask(0, 0);
        traced(x, 13, 10);
        due("-1", x.trace(-1), NONE);
        due("16", x.trace(16), NONE);
        due("most", x.trace(MOST), NONE);
        due("least", x.trace(LEAST), NONE);
        tell(x, STEADY);
        traced(x, 13, 10);
    }

    private static void count() {
        promise = 35;
        SlateShop x = of("f99,3,7;s0,0,0;g9,9,9;g9,9,9;s0,0,0;");
        x.row(2, 0, 0);
        x.row(5, 0, 1);
        x.row(5, 1, 1);
        x.cross(3, 1);
        x.cross(0, 1);
        x.weeks(2);
        x.feed('f');
        int[] all = {2, 4, 3, 7, 2, 9, 6, 4, 1};
        for (int what = 0; what < 9; what++) {
            due("what " + what, x.count(what), all[what]);
        }
        due("9", x.count(9), BAD);
        due("-1", x.count(-1), BAD);
    }

    private static void status() {
        promise = 36;
        SlateShop x = of(STEADY);
        due("none yet", x.status(), 0);
        x.row(0, 0, -1);
        due("size", x.status(), 4);
        x.row(0, 0, 41);
        x.set(9, 0, 0);
        x.copy(9, 0, 0, 0, 0);
        x.drop(-1);
        x.as(9, 0);
        x.who(0, 0, 0, 0);
        x.weeks(0);
        x.stop(0, 1);
        due("bad leaves it", x.status(), 4);
        x.row(0, 0, 2);
        due("row", x.status(), 0);
        x.set(1, 0, 0);
        due("null", x.status(), 1);
        x.set(0, 0, 0);
        due("set", x.status(), 0);
        x.set(0, 2, 0);
        due("place", x.status(), 2);
        x.copy(0, 0, 0, 1, 1);
        due("copy", x.status(), 0);
        x.row(1, 1, 2);
        x.copy(0, 0, 1, 1, 1);
        due("store", x.status(), 5);
        x.drop(1);
        due("drop", x.status(), 0);
        x.drop(1);
        due("missing", x.status(), 1);
        x.as(0, 1);
        due("as", x.status(), 0);
        x.as(0, 5);
        due("kind", x.status(), 3);
        x.who(0, 0, 0, 1);
        due("who", x.status(), 0);
        x.who(0, 0, 2, 1);
        due("who's place", x.status(), 2);
        x.who(0, 1, 0, 1);
        due("who's null", x.status(), 1);
        x.copy(1, 0, 0, 0, 0);
        due("copy's null", x.status(), 1);
        x.copy(0, 0, 0, 0, 9);
        due("copy's place", x.status(), 2);
    }
}
