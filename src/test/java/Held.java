import java.io.IOException;
import java.util.function.IntToLongFunction;

/** Which promise, and which sentence of the document, the answers that come now hold; and how they went. */
abstract class Held {
    static final int NONE = -1000000, BAD = -1000001, STATE = -1000002, FULL = -1000003;
    static final int NULL = -1000011, PLACE = -1000012, KIND = -1000013, SIZE = -1000014, STORE = -1000015;
    static final int LEAST = Integer.MIN_VALUE, MOST = Integer.MAX_VALUE;

    /** Nothing ever becomes another in it but WEEK. */
    static final String CALM = "f99,0,8;s0,0,0;";
    /** Owes 1 more each week, takes 9 in week 11, and the shop is shut behind 12. */
    static final String STEADY = "f10,0,4;s9,10,20;";
    /** One of each kind, s r h t g, who takes once and comes to the same debt of 20. */
    static final String FIVE = "f50,0,8;s9,20,20;r9,20,20;h9,20,20;t9,20,20;g9,20,21;";
    static final String SIX = "f99,0,8;s0,1,1;s0,2,2;s0,3,3;s0,4,4;s0,5,5;s0,6,6;";

    private static Document document;
    private static int promise;
    private static String words = "";
    private static int sentences;
    private static int ofSentence;
    private static int passed;
    private static int failed;

    static void open() throws IOException {
        document = new Document();
    }

    static void promise(int number) {
        promise = number;
    }

    /** A sentence of the promise's own section. */
    static void sentence(String told) {
        holds("Promise " + promise, told);
    }

    /** A sentence of the terms by which the promise is broken, too; part 0 stands ahead of the four. */
    static void term(int part, String told) {
        holds(part == 0 ? "Terms" : "Terms " + part, told);
    }

    /** A sentence that stands ahead of the terms. */
    static void head(String told) {
        holds("What it is", told);
    }

    /** Sentences without an answer between them are held by the same answers. */
    private static void holds(String section, String told) {
        String before = sentences > 0 && ofSentence == 0 ? words + " " : "";
        words = before + section + ": \"" + told + "\"";
        sentences++;
        ofSentence = 0;
        if (document.isThere() && !document.name(section, told)) {
            fails("does not stand there");
        }
    }

    private static void fails(String what) {
        failed++;
        System.out.println("promise " + promise + ", " + words + ": " + what);
    }

    static void due(String what, long got, long want) {
        ofSentence++;
        if (got == want) {
            passed++;
        } else {
            fails(what + ": " + got + ", due is " + want);
        }
    }

    static void due(String what, boolean so) {
        due(what, so ? 1 : 0, 1);
    }

    /** A number of a call is as told from least to most, and nowhere beyond: the call is made anew for each. */
    static void range(String what, int least, int most, IntToLongFunction call) {
        due(what + " " + least + " is refused", refuses(call.applyAsLong(least)) ? 1 : 0, 0);
        due(what + " " + most + " is refused", refuses(call.applyAsLong(most)) ? 1 : 0, 0);
        bad(what, call, least - 1, most + 1, LEAST, MOST);
    }

    static void bad(String what, IntToLongFunction call, int... numbers) {
        for (int number : numbers) {
            due(what + " " + number, call.applyAsLong(number), BAD);
        }
    }

    private static boolean refuses(long answer) {
        return answer == BAD || answer == STATE || answer == FULL || answer <= NULL && answer >= STORE;
    }

    /** The answer to the tape's reading. */
    static int tell(SlateShop x, String text) {
        for (int i = 0; i < text.length(); i++) {
            x.feed(text.charAt(i));
        }
        return x.shop();
    }

    static SlateShop of(String text) {
        SlateShop x = new SlateShop();
        int debtors = tell(x, text);
        if (debtors < 1 || debtors > 6) {
            fails(text + " is not read: " + debtors);
        }
        return x;
    }

    /** A shop so many weeks on. */
    static SlateShop of(String text, int weeks) {
        SlateShop x = of(text);
        for (int left = weeks; left > 0; left -= 24) {
            x.weeks(Math.min(left, 24));
        }
        return x;
    }

    static boolean close() {
        if (ofSentence == 0) {
            fails("nothing holds it");
        }
        if (!document.isThere()) {
            System.out.println("the document is not there: that its sentences stand so was not looked at");
        }
        document.rest().forEach((section, text) -> {
            failed++;
            System.out.println("no test names these words of " + section + ": " + text);
        });
        System.out.println("sentences: " + sentences + ", answers as due: " + passed + ", not as due: " + failed);
        return failed == 0;
    }
}
