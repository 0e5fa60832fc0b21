import java.util.function.Consumer;
import java.util.function.ToLongFunction;

/** All that can be seen of an object but status(), to compare one with another that was asked more. */
final class Seen {
    private Seen() {
    }

    /** An object with something of everything: rows, a tape, a fault, acts, images, a strike, a trace. */
    static SlateShop full() {
        SlateShop x = new SlateShop();
        x.shop();
        Held.tell(x, "f30,4,3;s9,20,40;r7,30,60;g20,30,25;t11,12,50;");
        x.image(0);
        x.weeks(2);
        x.cross(1, 1);
        x.image(1);
        x.strike(3);
        x.stop(0, 35);
        x.dearer(6);
        x.weeks(1);
        x.cross(3, 1);
        x.cross(3, 0);
        x.row(0, 0, 12);
        x.row(1, 1, 5);
        x.row(7, 2, 0);
        x.set(0, 2, 9);
        x.set(0, 3, 9);
        x.feed('f');
        x.feed('1');
        x.ask(1, 0);
        return x;
    }

    /** The call answers so, and all stays as it was. */
    static void stays(String what, long answer, ToLongFunction<SlateShop> call) {
        staysOf(what, answer, call, x -> { });
    }

    /** The same of an object to which something is done first. */
    static void staysOf(String what, long answer, ToLongFunction<SlateShop> call, Consumer<SlateShop> first) {
        SlateShop x = full();
        SlateShop y = full();
        first.accept(x);
        first.accept(y);
        Held.due(what, call.applyAsLong(x), answer);
        Held.due(what + " changes nothing", of(x).equals(of(y)));
    }

    /** All that can be seen; what is behind the acts, too, and then in the images, so that x is another then. */
    static String of(SlateShop x) {
        StringBuilder b = new StringBuilder();
        add(b, x.fault());
        for (int i = 0; i < 8; i++) {
            add(b, x.trace(i));
        }
        book(b, x);
        for (int i = 0; i < 24 && x.undo() != Held.STATE; i++) {
            add(b, x.count(7), x.count(2), x.count(4), x.shopHas(0), x.shopHas(2), x.shopHas(4));
        }
        book(b, x);
        for (int k = 0; k < 2; k++) {
            add(b, x.restore(k));
            book(b, x);
        }
        rows(b, x);
        add(b, x.shop(), x.fault());
        return b.toString();
    }

    private static void book(StringBuilder b, SlateShop x) {
        for (int what = 0; what < 9; what++) {
            add(b, x.count(what));
        }
        for (int what = 0; what < 6; what++) {
            add(b, x.shopHas(what));
        }
        for (int one = 0; one < x.count(1); one++) {
            add(b, x.kind(one));
            for (int what = 0; what < 8; what++) {
                add(b, x.debtor(one, what));
            }
        }
    }

    private static void rows(StringBuilder b, SlateShop x) {
        for (int i = 0; i < 12; i++) {
            add(b, x.who(0, 0, i, 1));
        }
        for (int row = 0; row < 8; row++) {
            add(b, x.copy(0, 0, row, 0, 0), x.drop(row));
        }
    }

    private static void add(StringBuilder b, long... answers) {
        for (long answer : answers) {
            b.append(answer).append(' ');
        }
    }
}
